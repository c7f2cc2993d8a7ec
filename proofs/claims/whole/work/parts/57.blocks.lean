/-! ===== the class's open blocks, the innermost first ===== -/
def BC (g : GE) (P : PG) (O : Nat → Nat) (w : GW) (r : Nat) : List (Nat × Nat × Nat) → Option Nat → Prop
  | [], a => a = none
  | (o, p, x) :: bs, a => ∃ q : Nat, a = some q ∧ gOb g w q 1 ∧ O q = r ∧ gR w 64 q = some (pQ P r o) ∧ gR w 66 q = some (pQ P r p) ∧ gI w 67 q = nI x ∧ (∀ q', gR w 65 q = some q' → q' < q) ∧ BC g P O w r bs (gR w 65 q)
/-- the steps that a block names -/
def SOK (g : GE) (P : PG) (w : GW) (wh : Nat → Int32) (r : Nat) (b : Nat × Nat × Nat) : Prop := gOb g w (pQ P r b.1) 7 ∧ gI w 448 (pQ P r b.1) = wh b.1 ∧ gOb g w (pQ P r b.2.1) 7 ∧ gI w 448 (pQ P r b.2.1) = wh b.2.1
def fPO (wh : Nat → Int32) (v : Int32) : List (Nat × Nat × Nat) → Int32
  | [] => 0
  | b :: bs => if wh b.2.1 = v then 1 else fPO wh v bs
def fLv (wh : Nat → Int32) : List (Nat × Nat × Nat) → Int32
  | [] => 0
  | b :: bs => if wh b.1 = 4 then 1 else if wh b.2.1 = 3 then 0 else fLv wh bs
theorem fPO_01 (wh : Nat → Int32) (v : Int32) : ∀ bs, fPO wh v bs = 0 ∨ fPO wh v bs = 1
  | [] => Or.inl rfl
  | b :: bs => by
    unfold fPO
    split
    · exact Or.inr rfl
    · exact fPO_01 wh v bs
theorem fLv_01 (wh : Nat → Int32) : ∀ bs, fLv wh bs = 0 ∨ fLv wh bs = 1
  | [] => Or.inl rfl
  | b :: bs => by
    unfold fLv
    split
    · exact Or.inr rfl
    split
    · exact Or.inl rfl
    · exact fLv_01 wh bs
set_option maxHeartbeats 4000000 in
set_option maxRecDepth 20000 in
theorem c_isPartOpen_loop {g : GE} {P : PG} {O : Nat → Nat} {d r rt : Nat} {w : GW} {Q : Option Value → GW → Prop} {wh : Nat → Int32} {v : Int32} : ∀ (bs : List (Nat × Nat × Nat)) (a : Option Nat), BC g P O w r bs a → (∀ b ∈ bs, SOK g P w wh r b) → Q (some (.int (fPO wh v bs))) w → gF g d mX5_isPartOpen 5 [(2, va_rf a), (0, .ref rt), (1, .int v)] [] w Q
  | [], a, hB, hs, k => by
    have e : a = none := hB
    subst e
    refine g_aload_nN dX5_isPartOpen_5 rfl ?_
    refine g_ifnullN 30 dX5_isPartOpen_6 (by decide) ?_
    refine g_iconstV (v := 0) dX5_isPartOpen_30 (by decide) ?_
    refine g_zret dX5_isPartOpen_31 rfl rfl ?_
    exact k
  | (o, p, x) :: bs, a, hB, hs, k => by
    obtain ⟨q, rfl, h1, h2, h3, h4, h5, h6, h7⟩ := hB
    obtain ⟨p1, p2, p3, p4⟩ := hs (o, p, x) List.mem_cons_self
    refine g_aload_n dX5_isPartOpen_5 rfl ?_
    refine g_ifnull dX5_isPartOpen_6 ?_
    refine g_aload_n dX5_isPartOpen_9 rfl ?_
    refine g_getR 1 2 66 dX5_isPartOpen_10 fX5_59 rfl rfl h1 h4 ?_
    refine g_getI 7 0 448 dX5_isPartOpen_13 fX5_56 rfl rfl p3 ?_
    refine g_iload_n dX5_isPartOpen_16 rfl ?_
    unfold fPO at k
    refine g_icmp_ne 22 dX5_isPartOpen_17 (by decide) (fun c1 => ?_) (fun c1 => ?_)
    · rw [show gI w 448 (pQ P r p) = wh p from p4] at c1
      rw [if_neg c1] at k
      refine g_aload_n dX5_isPartOpen_22 rfl ?_
      rcases he : gR w 65 q with _ | q'
      · rw [he] at h7
        refine g_getN 1 1 65 dX5_isPartOpen_23 fX5_62 rfl rfl h1 he ?_
        refine g_astore_nN dX5_isPartOpen_26 (by decide) rfl ?_
        refine g_goto 5 dX5_isPartOpen_27 (by decide) ?_
        exact c_isPartOpen_loop bs none h7 (fun b hb => hs b (List.mem_cons_of_mem _ hb)) k
      · rw [he] at h7
        refine g_getR 1 1 65 dX5_isPartOpen_23 fX5_62 rfl rfl h1 he ?_
        refine g_astore_n dX5_isPartOpen_26 (by decide) rfl ?_
        refine g_goto 5 dX5_isPartOpen_27 (by decide) ?_
        exact c_isPartOpen_loop bs (some q') h7 (fun b hb => hs b (List.mem_cons_of_mem _ hb)) k
    · rw [show gI w 448 (pQ P r p) = wh p from p4] at c1
      refine g_iconstV (v := 1) dX5_isPartOpen_20 (by decide) ?_
      refine g_zret dX5_isPartOpen_21 rfl rfl ?_
      rw [if_pos c1] at k
      exact k
set_option maxHeartbeats 4000000 in
set_option maxRecDepth 20000 in
theorem c_mayLeave_loop {g : GE} {P : PG} {O : Nat → Nat} {d r rt : Nat} {w : GW} {Q : Option Value → GW → Prop} {wh : Nat → Int32} : ∀ (bs : List (Nat × Nat × Nat)) (a : Option Nat), BC g P O w r bs a → (∀ b ∈ bs, SOK g P w wh r b) → Q (some (.int (fLv wh bs))) w → gF g d mX5_mayLeave 5 [(1, va_rf a), (0, .ref rt)] [] w Q
  | [], a, hB, hs, k => by
    have e : a = none := hB
    subst e
    refine g_aload_nN dX5_mayLeave_5 rfl ?_
    refine g_ifnullN 43 dX5_mayLeave_6 (by decide) ?_
    refine g_iconstV (v := 0) dX5_mayLeave_43 (by decide) ?_
    refine g_zret dX5_mayLeave_44 rfl rfl ?_
    exact k
  | (o, p, x) :: bs, a, hB, hs, k => by
    obtain ⟨q, rfl, h1, h2, h3, h4, h5, h6, h7⟩ := hB
    obtain ⟨p1, p2, p3, p4⟩ := hs (o, p, x) List.mem_cons_self
    refine g_aload_n dX5_mayLeave_5 rfl ?_
    refine g_ifnull dX5_mayLeave_6 ?_
    refine g_aload_n dX5_mayLeave_9 rfl ?_
    refine g_getR 1 0 64 dX5_mayLeave_10 fX5_52 rfl rfl h1 h3 ?_
    refine g_getI 7 0 448 dX5_mayLeave_13 fX5_56 rfl rfl p1 ?_
    refine g_iconstV (v := 4) dX5_mayLeave_16 (by decide) ?_
    unfold fLv at k
    refine g_icmp_ne 22 dX5_mayLeave_17 (by decide) (fun c1 => ?_) (fun c1 => ?_)
    · rw [show gI w 448 (pQ P r o) = wh o from p2] at c1
      rw [if_neg c1] at k
      refine g_aload_n dX5_mayLeave_22 rfl ?_
      refine g_getR 1 2 66 dX5_mayLeave_23 fX5_59 rfl rfl h1 h4 ?_
      refine g_getI 7 0 448 dX5_mayLeave_26 fX5_56 rfl rfl p3 ?_
      refine g_iconstV (v := 3) dX5_mayLeave_29 (by decide) ?_
      refine g_icmp_ne 35 dX5_mayLeave_30 (by decide) (fun c2 => ?_) (fun c2 => ?_)
      · rw [show gI w 448 (pQ P r p) = wh p from p4] at c2
        rw [if_neg c2] at k
        refine g_aload_n dX5_mayLeave_35 rfl ?_
        rcases he : gR w 65 q with _ | q'
        · rw [he] at h7
          refine g_getN 1 1 65 dX5_mayLeave_36 fX5_62 rfl rfl h1 he ?_
          refine g_astore_nN dX5_mayLeave_39 (by decide) rfl ?_
          refine g_goto 5 dX5_mayLeave_40 (by decide) ?_
          exact c_mayLeave_loop bs none h7 (fun b hb => hs b (List.mem_cons_of_mem _ hb)) k
        · rw [he] at h7
          refine g_getR 1 1 65 dX5_mayLeave_36 fX5_62 rfl rfl h1 he ?_
          refine g_astore_n dX5_mayLeave_39 (by decide) rfl ?_
          refine g_goto 5 dX5_mayLeave_40 (by decide) ?_
          exact c_mayLeave_loop bs (some q') h7 (fun b hb => hs b (List.mem_cons_of_mem _ hb)) k
      · rw [show gI w 448 (pQ P r p) = wh p from p4] at c2
        refine g_iconstV (v := 0) dX5_mayLeave_33 (by decide) ?_
        refine g_zret dX5_mayLeave_34 rfl rfl ?_
        rw [if_pos c2] at k
        exact k
    · rw [show gI w 448 (pQ P r o) = wh o from p2] at c1
      refine g_iconstV (v := 1) dX5_mayLeave_20 (by decide) ?_
      refine g_zret dX5_mayLeave_21 rfl rfl ?_
      rw [if_pos c1] at k
      exact k
set_option maxHeartbeats 4000000 in
set_option maxRecDepth 20000 in
theorem c_isPartOpen {g : GE} {P : PG} {O : Nat → Nat} {d r rt : Nat} {w : GW} {Q : Option Value → GW → Prop} {wh : Nat → Int32} {v : Int32} {bs : List (Nat × Nat × Nat)} (hr : gOb g w rt 5) (hB : BC g P O w r bs (gR w 322 rt)) (hs : ∀ b ∈ bs, SOK g P w wh r b) (k : Q (some (.int (fPO wh v bs))) w) : gM g d mX5_isPartOpen [.ref rt, .int v] w Q := by
  refine gM.of (by decide) (Nat.le_of_ble_eq_true rfl) ?_
  refine g_aload_n dX5_isPartOpen_0 rfl ?_
  rcases he : gR w 322 rt with _ | q'
  · rw [he] at hB
    refine g_getN 5 2 322 dX5_isPartOpen_1 fX5_25 rfl rfl hr he ?_
    refine g_astore_nN dX5_isPartOpen_4 (by decide) rfl ?_
    exact c_isPartOpen_loop bs none hB hs k
  · rw [he] at hB
    refine g_getR 5 2 322 dX5_isPartOpen_1 fX5_25 rfl rfl hr he ?_
    refine g_astore_n dX5_isPartOpen_4 (by decide) rfl ?_
    exact c_isPartOpen_loop bs (some q') hB hs k
set_option maxHeartbeats 4000000 in
set_option maxRecDepth 20000 in
theorem c_mayLeave {g : GE} {P : PG} {O : Nat → Nat} {d r rt : Nat} {w : GW} {Q : Option Value → GW → Prop} {wh : Nat → Int32} {bs : List (Nat × Nat × Nat)} (hr : gOb g w rt 5) (hB : BC g P O w r bs (gR w 322 rt)) (hs : ∀ b ∈ bs, SOK g P w wh r b) (k : Q (some (.int (fLv wh bs))) w) : gM g d mX5_mayLeave [.ref rt] w Q := by
  refine gM.of (by decide) (Nat.le_of_ble_eq_true rfl) ?_
  refine g_aload_n dX5_mayLeave_0 rfl ?_
  rcases he : gR w 322 rt with _ | q'
  · rw [he] at hB
    refine g_getN 5 2 322 dX5_mayLeave_1 fX5_25 rfl rfl hr he ?_
    refine g_astore_nN dX5_mayLeave_4 (by decide) rfl ?_
    exact c_mayLeave_loop bs none hB hs k
  · rw [he] at hB
    refine g_getR 5 2 322 dX5_mayLeave_1 fX5_25 rfl rfl hr he ?_
    refine g_astore_n dX5_mayLeave_4 (by decide) rfl ?_
    exact c_mayLeave_loop bs (some q') hB hs k
/-- what may stand behind the steps of a routine whose open blocks are bs -/
def fTk (wh : Nat → Int32) (v : Int32) (b : Nat × Nat × Nat) : Int32 := if wh b.1 = 1 then (if wh b.2.1 = 3 then 0 else if v = 2 then (if b.2.2 < 3 then 1 else 0) else 1) else 0
def fMay (wh : Nat → Int32) (v : Nat) (bs : List (Nat × Nat × Nat)) : Int32 :=
  if v = 0 then (match bs with | [] => 0 | _ :: _ => 1) else if v = 2 ∨ v = 3 then (match bs with | [] => 0 | b :: _ => fTk wh (nI v) b) else if v = 5 then fLv wh bs else if v = 6 then (if fPO wh 3 bs = 0 then 1 else 0) else if v = 8 ∨ v = 9 ∨ v = 10 then fPO wh 2 bs else if v = 1 ∨ v = 4 ∨ v = 11 then (if bs.length < 6 then 1 else 0) else 1
theorem fTk_01 (wh : Nat → Int32) (v : Int32) (b : Nat × Nat × Nat) : fTk wh v b = 0 ∨ fTk wh v b = 1 := by
  unfold fTk
  repeat' split
  all_goals first | exact Or.inl rfl | exact Or.inr rfl
set_option maxHeartbeats 4000000 in
set_option maxRecDepth 20000 in
theorem c_takesPart {g : GE} {d : Nat} {w : GW} {Q : Option Value → GW → Prop} {P : PG} {r q o p x : Nat} {v : Int32} {wh : Nat → Int32} (h1 : gOb g w q 1) (h3 : gR w 64 q = some (pQ P r o)) (h4 : gR w 66 q = some (pQ P r p)) (h5 : gI w 67 q = nI x) (hx : x ≤ 3) (hs : SOK g P w wh r (o, p, x)) (k : Q (some (.int (fTk wh v (o, p, x)))) w) : gM g d mX1_takesPart [.ref q, .int v] w Q := by
  refine gM.of (by decide) (Nat.le_of_ble_eq_true rfl) ?_
  obtain ⟨p1, p2, p3, p4⟩ := hs
  have e2 : gI w 448 (pQ P r o) = wh o := p2
  have e4 : gI w 448 (pQ P r p) = wh p := p4
  have e5 : nI 3 ≤ nI x ↔ ¬ x < 3 := ⟨fun z y => nI_ge y (by decide) z, fun z => nI_le (by omega) (by omega)⟩
  unfold fTk at k
  refine g_aload_n dX1_takesPart_0 rfl ?_
  refine g_getR 1 0 64 dX1_takesPart_1 fX1_7 rfl rfl (by assumption) (by assumption) ?_
  refine g_getI 7 0 448 dX1_takesPart_4 fX1_25 rfl rfl p1 ?_
  rw [e2]
  refine g_iconstV (v := 1) dX1_takesPart_7 (by decide) ?_
  refine g_icmp_ne 39 dX1_takesPart_8 (by decide) (fun c1 => ?_) (fun c1 => ?_)
  · refine g_iconstV (v := 0) dX1_takesPart_39 (by decide) ?_
    refine g_zret dX1_takesPart_40 rfl rfl ?_
    rw [if_neg c1] at k
    exact k
  · refine g_aload_n dX1_takesPart_11 rfl ?_
    refine g_getR 1 2 66 dX1_takesPart_12 fX1_17 rfl rfl (by assumption) (by assumption) ?_
    refine g_getI 7 0 448 dX1_takesPart_15 fX1_25 rfl rfl p3 ?_
    rw [e4]
    refine g_iconstV (v := 3) dX1_takesPart_18 (by decide) ?_
    refine g_icmp_eq 39 dX1_takesPart_19 (by decide) (fun c2 => ?_) (fun c2 => ?_)
    · refine g_iconstV (v := 0) dX1_takesPart_39 (by decide) ?_
      refine g_zret dX1_takesPart_40 rfl rfl ?_
      rw [if_pos c1, if_pos c2] at k
      exact k
    · refine g_iload_n dX1_takesPart_22 rfl ?_
      refine g_iconstV (v := 2) dX1_takesPart_23 (by decide) ?_
      refine g_icmp_ne 35 dX1_takesPart_24 (by decide) (fun c3 => ?_) (fun c3 => ?_)
      · refine g_iconstV (v := 1) dX1_takesPart_35 (by decide) ?_
        refine g_goto 40 dX1_takesPart_36 (by decide) ?_
        refine g_zret dX1_takesPart_40 rfl rfl ?_
        rw [if_pos c1, if_neg c2, if_neg c3] at k
        exact k
      · refine g_aload_n dX1_takesPart_27 rfl ?_
        refine g_getI 1 3 67 dX1_takesPart_28 fX1_29 rfl rfl h1 ?_
        rw [h5]
        refine g_iconstV (v := 3) dX1_takesPart_31 (by decide) ?_
        refine g_icmp_ge 39 dX1_takesPart_32 (by decide) (fun c4 => ?_) (fun c4 => ?_)
        · refine g_iconstV (v := 0) dX1_takesPart_39 (by decide) ?_
          refine g_zret dX1_takesPart_40 rfl rfl ?_
          rw [if_pos c1, if_neg c2, if_pos c3, if_neg (e5.mp c4)] at k
          exact k
        · refine g_iconstV (v := 1) dX1_takesPart_35 (by decide) ?_
          refine g_goto 40 dX1_takesPart_36 (by decide) ?_
          refine g_zret dX1_takesPart_40 rfl rfl ?_
          rw [if_pos c1, if_neg c2, if_pos c3, if_pos (Classical.byContradiction fun z => c4 (e5.mpr z))] at k
          exact k
set_option maxHeartbeats 4000000 in
set_option maxRecDepth 20000 in
theorem c_may0 {g : GE} {d : Nat} {w : GW} {Q : Option Value → GW → Prop} {P : PG} {O : Nat → Nat} {r rt : Nat} {wh : Nat → Int32} {bs : List (Nat × Nat × Nat)} (hr : gOb g w rt 5) (hB : BC g P O w r bs (gR w 322 rt)) (hs : ∀ b ∈ bs, SOK g P w wh r b) (hx : ∀ b ∈ bs, b.2.2 ≤ 3) (ho : gI w 324 rt = nI bs.length) (hl : bs.length ≤ 6) (k : Q (some (.int (fMay wh 0 bs))) w) : gM g d mX5_mayStandHere [.ref rt, .int 0] w Q := by
  refine gM.of (by decide) (Nat.le_of_ble_eq_true rfl) ?_
  refine g_iload_n dX5_mayStandHere_0 rfl ?_
  refine g_tableIn (off := 63) 64 dX5_mayStandHere_1 (by decide) (by decide) (by rfl) (by decide) ?_
  refine g_aload_n dX5_mayStandHere_64 rfl ?_
  cases bs with
  | nil =>
    refine g_getN 5 2 322 dX5_mayStandHere_65 fX5_25 rfl rfl hr hB ?_
    refine g_ifnullN 75 dX5_mayStandHere_68 (by decide) ?_
    refine g_iconstV (v := 0) dX5_mayStandHere_75 (by decide) ?_
    refine g_zret dX5_mayStandHere_76 rfl rfl ?_
    exact k
  | cons b bs =>
    obtain ⟨o, p, x⟩ := b
    obtain ⟨q, he, h1, h2, h3, h4, h5, h6, h7⟩ := hB
    refine g_getR 5 2 322 dX5_mayStandHere_65 fX5_25 rfl rfl hr he ?_
    refine g_ifnull dX5_mayStandHere_68 ?_
    refine g_iconstV (v := 1) dX5_mayStandHere_71 (by decide) ?_
    refine g_goto 76 dX5_mayStandHere_72 (by decide) ?_
    refine g_zret dX5_mayStandHere_76 rfl rfl ?_
    exact k
set_option maxHeartbeats 4000000 in
set_option maxRecDepth 20000 in
theorem c_may2 {g : GE} {d : Nat} {w : GW} {Q : Option Value → GW → Prop} (hd : 1 ≤ d) {P : PG} {O : Nat → Nat} {r rt : Nat} {wh : Nat → Int32} {bs : List (Nat × Nat × Nat)} (hr : gOb g w rt 5) (hB : BC g P O w r bs (gR w 322 rt)) (hs : ∀ b ∈ bs, SOK g P w wh r b) (hx : ∀ b ∈ bs, b.2.2 ≤ 3) (ho : gI w 324 rt = nI bs.length) (hl : bs.length ≤ 6) (k : Q (some (.int (fMay wh 2 bs))) w) : gM g d mX5_mayStandHere [.ref rt, .int 2] w Q := by
  refine gM.of (by decide) (Nat.le_of_ble_eq_true rfl) ?_
  refine g_iload_n dX5_mayStandHere_0 rfl ?_
  refine g_tableIn (off := 76) 77 dX5_mayStandHere_1 (by decide) (by decide) (by rfl) (by decide) ?_
  refine g_aload_n dX5_mayStandHere_77 rfl ?_
  cases bs with
  | nil =>
    refine g_getN 5 2 322 dX5_mayStandHere_78 fX5_25 rfl rfl hr hB ?_
    refine g_ifnullN 99 dX5_mayStandHere_81 (by decide) ?_
    refine g_iconstV (v := 0) dX5_mayStandHere_99 (by decide) ?_
    refine g_zret dX5_mayStandHere_100 rfl rfl ?_
    exact k
  | cons b bs =>
    obtain ⟨o, p, x⟩ := b
    obtain ⟨q, he, h1, h2, h3, h4, h5, h6, h7⟩ := hB
    replace k : Q (some (.int (fTk wh 2 (o, p, x)))) w := k
    refine g_getR 5 2 322 dX5_mayStandHere_78 fX5_25 rfl rfl hr he ?_
    refine g_ifnull dX5_mayStandHere_81 ?_
    refine g_aload_n dX5_mayStandHere_84 rfl ?_
    refine g_getR 5 2 322 dX5_mayStandHere_85 fX5_25 rfl rfl hr he ?_
    refine g_iload_n dX5_mayStandHere_88 rfl ?_
    refine g_callV (d1 := d - 1) (As := [_]) 1 dX5_mayStandHere_89 vX5_40 (by omega) h1 rfl rfl (Nat.le_of_ble_eq_true rfl) ?_
    refine c_takesPart h1 h3 h4 h5 (hx (o, p, x) List.mem_cons_self) (hs (o, p, x) List.mem_cons_self) ?_
    refine g_if_eq 99 dX5_mayStandHere_92 (by decide) (fun c1 => ?_) (fun c1 => ?_)
    · refine g_iconstV (v := 0) dX5_mayStandHere_99 (by decide) ?_
      refine g_zret dX5_mayStandHere_100 rfl rfl ?_
      rw [c1] at k
      exact k
    · refine g_iconstV (v := 1) dX5_mayStandHere_95 (by decide) ?_
      refine g_goto 100 dX5_mayStandHere_96 (by decide) ?_
      refine g_zret dX5_mayStandHere_100 rfl rfl ?_
      rw [(fTk_01 wh 2 (o, p, x)).resolve_left c1] at k
      exact k
set_option maxHeartbeats 4000000 in
set_option maxRecDepth 20000 in
theorem c_may3 {g : GE} {d : Nat} {w : GW} {Q : Option Value → GW → Prop} (hd : 1 ≤ d) {P : PG} {O : Nat → Nat} {r rt : Nat} {wh : Nat → Int32} {bs : List (Nat × Nat × Nat)} (hr : gOb g w rt 5) (hB : BC g P O w r bs (gR w 322 rt)) (hs : ∀ b ∈ bs, SOK g P w wh r b) (hx : ∀ b ∈ bs, b.2.2 ≤ 3) (ho : gI w 324 rt = nI bs.length) (hl : bs.length ≤ 6) (k : Q (some (.int (fMay wh 3 bs))) w) : gM g d mX5_mayStandHere [.ref rt, .int 3] w Q := by
  refine gM.of (by decide) (Nat.le_of_ble_eq_true rfl) ?_
  refine g_iload_n dX5_mayStandHere_0 rfl ?_
  refine g_tableIn (off := 76) 77 dX5_mayStandHere_1 (by decide) (by decide) (by rfl) (by decide) ?_
  refine g_aload_n dX5_mayStandHere_77 rfl ?_
  cases bs with
  | nil =>
    refine g_getN 5 2 322 dX5_mayStandHere_78 fX5_25 rfl rfl hr hB ?_
    refine g_ifnullN 99 dX5_mayStandHere_81 (by decide) ?_
    refine g_iconstV (v := 0) dX5_mayStandHere_99 (by decide) ?_
    refine g_zret dX5_mayStandHere_100 rfl rfl ?_
    exact k
  | cons b bs =>
    obtain ⟨o, p, x⟩ := b
    obtain ⟨q, he, h1, h2, h3, h4, h5, h6, h7⟩ := hB
    replace k : Q (some (.int (fTk wh 3 (o, p, x)))) w := k
    refine g_getR 5 2 322 dX5_mayStandHere_78 fX5_25 rfl rfl hr he ?_
    refine g_ifnull dX5_mayStandHere_81 ?_
    refine g_aload_n dX5_mayStandHere_84 rfl ?_
    refine g_getR 5 2 322 dX5_mayStandHere_85 fX5_25 rfl rfl hr he ?_
    refine g_iload_n dX5_mayStandHere_88 rfl ?_
    refine g_callV (d1 := d - 1) (As := [_]) 1 dX5_mayStandHere_89 vX5_40 (by omega) h1 rfl rfl (Nat.le_of_ble_eq_true rfl) ?_
    refine c_takesPart h1 h3 h4 h5 (hx (o, p, x) List.mem_cons_self) (hs (o, p, x) List.mem_cons_self) ?_
    refine g_if_eq 99 dX5_mayStandHere_92 (by decide) (fun c1 => ?_) (fun c1 => ?_)
    · refine g_iconstV (v := 0) dX5_mayStandHere_99 (by decide) ?_
      refine g_zret dX5_mayStandHere_100 rfl rfl ?_
      rw [c1] at k
      exact k
    · refine g_iconstV (v := 1) dX5_mayStandHere_95 (by decide) ?_
      refine g_goto 100 dX5_mayStandHere_96 (by decide) ?_
      refine g_zret dX5_mayStandHere_100 rfl rfl ?_
      rw [(fTk_01 wh 3 (o, p, x)).resolve_left c1] at k
      exact k
set_option maxHeartbeats 4000000 in
set_option maxRecDepth 20000 in
theorem c_may5 {g : GE} {d : Nat} {w : GW} {Q : Option Value → GW → Prop} (hd : 1 ≤ d) {P : PG} {O : Nat → Nat} {r rt : Nat} {wh : Nat → Int32} {bs : List (Nat × Nat × Nat)} (hr : gOb g w rt 5) (hB : BC g P O w r bs (gR w 322 rt)) (hs : ∀ b ∈ bs, SOK g P w wh r b) (hx : ∀ b ∈ bs, b.2.2 ≤ 3) (ho : gI w 324 rt = nI bs.length) (hl : bs.length ≤ 6) (k : Q (some (.int (fMay wh 5 bs))) w) : gM g d mX5_mayStandHere [.ref rt, .int 5] w Q := by
  refine gM.of (by decide) (Nat.le_of_ble_eq_true rfl) ?_
  replace k : Q (some (.int (fLv wh bs))) w := k
  refine g_iload_n dX5_mayStandHere_0 rfl ?_
  refine g_tableIn (off := 100) 101 dX5_mayStandHere_1 (by rw [show (5 : Int32) = 5 from rfl]; decide) (by rw [show (5 : Int32) = 5 from rfl]; decide) (by rw [show (5 : Int32) = 5 from rfl]; rfl) (by decide) ?_
  refine g_aload_n dX5_mayStandHere_101 rfl ?_
  refine g_callV (d1 := d - 1) (As := []) 5 dX5_mayStandHere_102 vX5_45 (by omega) (by assumption) rfl rfl (Nat.le_of_ble_eq_true rfl) ?_
  refine c_mayLeave hr hB hs ?_
  refine g_zret dX5_mayStandHere_105 rfl (zb_of (fLv_01 _ _)) ?_
  exact k
set_option maxHeartbeats 4000000 in
set_option maxRecDepth 20000 in
theorem c_may6 {g : GE} {d : Nat} {w : GW} {Q : Option Value → GW → Prop} (hd : 1 ≤ d) {P : PG} {O : Nat → Nat} {r rt : Nat} {wh : Nat → Int32} {bs : List (Nat × Nat × Nat)} (hr : gOb g w rt 5) (hB : BC g P O w r bs (gR w 322 rt)) (hs : ∀ b ∈ bs, SOK g P w wh r b) (hx : ∀ b ∈ bs, b.2.2 ≤ 3) (ho : gI w 324 rt = nI bs.length) (hl : bs.length ≤ 6) (k : Q (some (.int (fMay wh 6 bs))) w) : gM g d mX5_mayStandHere [.ref rt, .int 6] w Q := by
  refine gM.of (by decide) (Nat.le_of_ble_eq_true rfl) ?_
  replace k : Q (some (.int (if fPO wh 3 bs = 0 then 1 else 0))) w := k
  refine g_iload_n dX5_mayStandHere_0 rfl ?_
  refine g_tableIn (off := 105) 106 dX5_mayStandHere_1 (by rw [show (6 : Int32) = 6 from rfl]; decide) (by rw [show (6 : Int32) = 6 from rfl]; decide) (by rw [show (6 : Int32) = 6 from rfl]; rfl) (by decide) ?_
  refine g_aload_n dX5_mayStandHere_106 rfl ?_
  refine g_iconstV (v := 3) dX5_mayStandHere_107 (by decide) ?_
  refine g_callV (d1 := d - 1) (As := [_]) 5 dX5_mayStandHere_108 vX5_49 (by omega) (by assumption) rfl rfl (Nat.le_of_ble_eq_true rfl) ?_
  refine c_isPartOpen hr hB hs ?_
  refine g_if_ne 118 dX5_mayStandHere_111 (by decide) (fun c1 => ?_) (fun c1 => ?_)
  · refine g_iconstV (v := 0) dX5_mayStandHere_118 (by decide) ?_
    refine g_zret dX5_mayStandHere_119 rfl rfl ?_
    rw [if_neg c1] at k
    exact k
  · refine g_iconstV (v := 1) dX5_mayStandHere_114 (by decide) ?_
    refine g_goto 119 dX5_mayStandHere_115 (by decide) ?_
    refine g_zret dX5_mayStandHere_119 rfl rfl ?_
    rw [if_pos c1] at k
    exact k
set_option maxHeartbeats 4000000 in
set_option maxRecDepth 20000 in
theorem c_may8 {g : GE} {d : Nat} {w : GW} {Q : Option Value → GW → Prop} (hd : 1 ≤ d) {P : PG} {O : Nat → Nat} {r rt : Nat} {wh : Nat → Int32} {bs : List (Nat × Nat × Nat)} (hr : gOb g w rt 5) (hB : BC g P O w r bs (gR w 322 rt)) (hs : ∀ b ∈ bs, SOK g P w wh r b) (hx : ∀ b ∈ bs, b.2.2 ≤ 3) (ho : gI w 324 rt = nI bs.length) (hl : bs.length ≤ 6) (k : Q (some (.int (fMay wh 8 bs))) w) : gM g d mX5_mayStandHere [.ref rt, .int 8] w Q := by
  refine gM.of (by decide) (Nat.le_of_ble_eq_true rfl) ?_
  replace k : Q (some (.int (fPO wh 2 bs))) w := k
  refine g_iload_n dX5_mayStandHere_0 rfl ?_
  refine g_tableIn (off := 119) 120 dX5_mayStandHere_1 (by rw [show (8 : Int32) = 8 from rfl]; decide) (by rw [show (8 : Int32) = 8 from rfl]; decide) (by rw [show (8 : Int32) = 8 from rfl]; rfl) (by decide) ?_
  refine g_aload_n dX5_mayStandHere_120 rfl ?_
  refine g_iconstV (v := 2) dX5_mayStandHere_121 (by decide) ?_
  refine g_callV (d1 := d - 1) (As := [_]) 5 dX5_mayStandHere_122 vX5_49 (by omega) (by assumption) rfl rfl (Nat.le_of_ble_eq_true rfl) ?_
  refine c_isPartOpen hr hB hs ?_
  refine g_zret dX5_mayStandHere_125 rfl (zb_of (fPO_01 _ _ _)) ?_
  exact k
set_option maxHeartbeats 4000000 in
set_option maxRecDepth 20000 in
theorem c_may9 {g : GE} {d : Nat} {w : GW} {Q : Option Value → GW → Prop} (hd : 1 ≤ d) {P : PG} {O : Nat → Nat} {r rt : Nat} {wh : Nat → Int32} {bs : List (Nat × Nat × Nat)} (hr : gOb g w rt 5) (hB : BC g P O w r bs (gR w 322 rt)) (hs : ∀ b ∈ bs, SOK g P w wh r b) (hx : ∀ b ∈ bs, b.2.2 ≤ 3) (ho : gI w 324 rt = nI bs.length) (hl : bs.length ≤ 6) (k : Q (some (.int (fMay wh 9 bs))) w) : gM g d mX5_mayStandHere [.ref rt, .int 9] w Q := by
  refine gM.of (by decide) (Nat.le_of_ble_eq_true rfl) ?_
  replace k : Q (some (.int (fPO wh 2 bs))) w := k
  refine g_iload_n dX5_mayStandHere_0 rfl ?_
  refine g_tableIn (off := 119) 120 dX5_mayStandHere_1 (by rw [show (9 : Int32) = 9 from rfl]; decide) (by rw [show (9 : Int32) = 9 from rfl]; decide) (by rw [show (9 : Int32) = 9 from rfl]; rfl) (by decide) ?_
  refine g_aload_n dX5_mayStandHere_120 rfl ?_
  refine g_iconstV (v := 2) dX5_mayStandHere_121 (by decide) ?_
  refine g_callV (d1 := d - 1) (As := [_]) 5 dX5_mayStandHere_122 vX5_49 (by omega) (by assumption) rfl rfl (Nat.le_of_ble_eq_true rfl) ?_
  refine c_isPartOpen hr hB hs ?_
  refine g_zret dX5_mayStandHere_125 rfl (zb_of (fPO_01 _ _ _)) ?_
  exact k
set_option maxHeartbeats 4000000 in
set_option maxRecDepth 20000 in
theorem c_may10 {g : GE} {d : Nat} {w : GW} {Q : Option Value → GW → Prop} (hd : 1 ≤ d) {P : PG} {O : Nat → Nat} {r rt : Nat} {wh : Nat → Int32} {bs : List (Nat × Nat × Nat)} (hr : gOb g w rt 5) (hB : BC g P O w r bs (gR w 322 rt)) (hs : ∀ b ∈ bs, SOK g P w wh r b) (hx : ∀ b ∈ bs, b.2.2 ≤ 3) (ho : gI w 324 rt = nI bs.length) (hl : bs.length ≤ 6) (k : Q (some (.int (fMay wh 10 bs))) w) : gM g d mX5_mayStandHere [.ref rt, .int 10] w Q := by
  refine gM.of (by decide) (Nat.le_of_ble_eq_true rfl) ?_
  replace k : Q (some (.int (fPO wh 2 bs))) w := k
  refine g_iload_n dX5_mayStandHere_0 rfl ?_
  refine g_tableIn (off := 119) 120 dX5_mayStandHere_1 (by rw [show (10 : Int32) = 10 from rfl]; decide) (by rw [show (10 : Int32) = 10 from rfl]; decide) (by rw [show (10 : Int32) = 10 from rfl]; rfl) (by decide) ?_
  refine g_aload_n dX5_mayStandHere_120 rfl ?_
  refine g_iconstV (v := 2) dX5_mayStandHere_121 (by decide) ?_
  refine g_callV (d1 := d - 1) (As := [_]) 5 dX5_mayStandHere_122 vX5_49 (by omega) (by assumption) rfl rfl (Nat.le_of_ble_eq_true rfl) ?_
  refine c_isPartOpen hr hB hs ?_
  refine g_zret dX5_mayStandHere_125 rfl (zb_of (fPO_01 _ _ _)) ?_
  exact k
set_option maxHeartbeats 4000000 in
set_option maxRecDepth 20000 in
theorem c_may1 {g : GE} {d : Nat} {w : GW} {Q : Option Value → GW → Prop} (hd : 1 ≤ d) {P : PG} {O : Nat → Nat} {r rt : Nat} {wh : Nat → Int32} {bs : List (Nat × Nat × Nat)} (hr : gOb g w rt 5) (hB : BC g P O w r bs (gR w 322 rt)) (hs : ∀ b ∈ bs, SOK g P w wh r b) (hx : ∀ b ∈ bs, b.2.2 ≤ 3) (ho : gI w 324 rt = nI bs.length) (hl : bs.length ≤ 6) (k : Q (some (.int (fMay wh 1 bs))) w) : gM g d mX5_mayStandHere [.ref rt, .int 1] w Q := by
  refine gM.of (by decide) (Nat.le_of_ble_eq_true rfl) ?_
  replace k : Q (some (.int (if bs.length < 6 then 1 else 0))) w := k
  have e6 : nI 6 ≤ nI bs.length ↔ ¬ bs.length < 6 := ⟨fun z y => nI_ge y (by decide) z, fun z => nI_le (by omega) (by omega)⟩
  refine g_iload_n dX5_mayStandHere_0 rfl ?_
  refine g_tableIn (off := 125) 126 dX5_mayStandHere_1 (by rw [show (1 : Int32) = 1 from rfl]; decide) (by rw [show (1 : Int32) = 1 from rfl]; decide) (by rw [show (1 : Int32) = 1 from rfl]; rfl) (by decide) ?_
  refine g_aload_n dX5_mayStandHere_126 rfl ?_
  refine g_getI 5 4 324 dX5_mayStandHere_127 fX5_22 rfl rfl hr ?_
  rw [ho]
  refine g_bipushV (v := 6) dX5_mayStandHere_130 (by decide) ?_
  refine g_icmp_ge 139 dX5_mayStandHere_132 (by decide) (fun c1 => ?_) (fun c1 => ?_)
  · refine g_iconstV (v := 0) dX5_mayStandHere_139 (by decide) ?_
    refine g_zret dX5_mayStandHere_140 rfl rfl ?_
    rw [if_neg (e6.mp c1)] at k
    exact k
  · refine g_iconstV (v := 1) dX5_mayStandHere_135 (by decide) ?_
    refine g_goto 140 dX5_mayStandHere_136 (by decide) ?_
    refine g_zret dX5_mayStandHere_140 rfl rfl ?_
    rw [if_pos (Classical.byContradiction fun z => c1 (e6.mpr z))] at k
    exact k
set_option maxHeartbeats 4000000 in
set_option maxRecDepth 20000 in
theorem c_may4 {g : GE} {d : Nat} {w : GW} {Q : Option Value → GW → Prop} (hd : 1 ≤ d) {P : PG} {O : Nat → Nat} {r rt : Nat} {wh : Nat → Int32} {bs : List (Nat × Nat × Nat)} (hr : gOb g w rt 5) (hB : BC g P O w r bs (gR w 322 rt)) (hs : ∀ b ∈ bs, SOK g P w wh r b) (hx : ∀ b ∈ bs, b.2.2 ≤ 3) (ho : gI w 324 rt = nI bs.length) (hl : bs.length ≤ 6) (k : Q (some (.int (fMay wh 4 bs))) w) : gM g d mX5_mayStandHere [.ref rt, .int 4] w Q := by
  refine gM.of (by decide) (Nat.le_of_ble_eq_true rfl) ?_
  replace k : Q (some (.int (if bs.length < 6 then 1 else 0))) w := k
  have e6 : nI 6 ≤ nI bs.length ↔ ¬ bs.length < 6 := ⟨fun z y => nI_ge y (by decide) z, fun z => nI_le (by omega) (by omega)⟩
  refine g_iload_n dX5_mayStandHere_0 rfl ?_
  refine g_tableIn (off := 125) 126 dX5_mayStandHere_1 (by rw [show (4 : Int32) = 4 from rfl]; decide) (by rw [show (4 : Int32) = 4 from rfl]; decide) (by rw [show (4 : Int32) = 4 from rfl]; rfl) (by decide) ?_
  refine g_aload_n dX5_mayStandHere_126 rfl ?_
  refine g_getI 5 4 324 dX5_mayStandHere_127 fX5_22 rfl rfl hr ?_
  rw [ho]
  refine g_bipushV (v := 6) dX5_mayStandHere_130 (by decide) ?_
  refine g_icmp_ge 139 dX5_mayStandHere_132 (by decide) (fun c1 => ?_) (fun c1 => ?_)
  · refine g_iconstV (v := 0) dX5_mayStandHere_139 (by decide) ?_
    refine g_zret dX5_mayStandHere_140 rfl rfl ?_
    rw [if_neg (e6.mp c1)] at k
    exact k
  · refine g_iconstV (v := 1) dX5_mayStandHere_135 (by decide) ?_
    refine g_goto 140 dX5_mayStandHere_136 (by decide) ?_
    refine g_zret dX5_mayStandHere_140 rfl rfl ?_
    rw [if_pos (Classical.byContradiction fun z => c1 (e6.mpr z))] at k
    exact k
set_option maxHeartbeats 4000000 in
set_option maxRecDepth 20000 in
theorem c_may11 {g : GE} {d : Nat} {w : GW} {Q : Option Value → GW → Prop} (hd : 1 ≤ d) {P : PG} {O : Nat → Nat} {r rt : Nat} {wh : Nat → Int32} {bs : List (Nat × Nat × Nat)} (hr : gOb g w rt 5) (hB : BC g P O w r bs (gR w 322 rt)) (hs : ∀ b ∈ bs, SOK g P w wh r b) (hx : ∀ b ∈ bs, b.2.2 ≤ 3) (ho : gI w 324 rt = nI bs.length) (hl : bs.length ≤ 6) (k : Q (some (.int (fMay wh 11 bs))) w) : gM g d mX5_mayStandHere [.ref rt, .int 11] w Q := by
  refine gM.of (by decide) (Nat.le_of_ble_eq_true rfl) ?_
  replace k : Q (some (.int (if bs.length < 6 then 1 else 0))) w := k
  have e6 : nI 6 ≤ nI bs.length ↔ ¬ bs.length < 6 := ⟨fun z y => nI_ge y (by decide) z, fun z => nI_le (by omega) (by omega)⟩
  refine g_iload_n dX5_mayStandHere_0 rfl ?_
  refine g_tableIn (off := 125) 126 dX5_mayStandHere_1 (by rw [show (11 : Int32) = 11 from rfl]; decide) (by rw [show (11 : Int32) = 11 from rfl]; decide) (by rw [show (11 : Int32) = 11 from rfl]; rfl) (by decide) ?_
  refine g_aload_n dX5_mayStandHere_126 rfl ?_
  refine g_getI 5 4 324 dX5_mayStandHere_127 fX5_22 rfl rfl hr ?_
  rw [ho]
  refine g_bipushV (v := 6) dX5_mayStandHere_130 (by decide) ?_
  refine g_icmp_ge 139 dX5_mayStandHere_132 (by decide) (fun c1 => ?_) (fun c1 => ?_)
  · refine g_iconstV (v := 0) dX5_mayStandHere_139 (by decide) ?_
    refine g_zret dX5_mayStandHere_140 rfl rfl ?_
    rw [if_neg (e6.mp c1)] at k
    exact k
  · refine g_iconstV (v := 1) dX5_mayStandHere_135 (by decide) ?_
    refine g_goto 140 dX5_mayStandHere_136 (by decide) ?_
    refine g_zret dX5_mayStandHere_140 rfl rfl ?_
    rw [if_pos (Classical.byContradiction fun z => c1 (e6.mpr z))] at k
    exact k
set_option maxHeartbeats 4000000 in
set_option maxRecDepth 20000 in
theorem c_may7 {g : GE} {d : Nat} {w : GW} {Q : Option Value → GW → Prop} (hd : 1 ≤ d) {P : PG} {O : Nat → Nat} {r rt : Nat} {wh : Nat → Int32} {bs : List (Nat × Nat × Nat)} (hr : gOb g w rt 5) (hB : BC g P O w r bs (gR w 322 rt)) (hs : ∀ b ∈ bs, SOK g P w wh r b) (hx : ∀ b ∈ bs, b.2.2 ≤ 3) (ho : gI w 324 rt = nI bs.length) (hl : bs.length ≤ 6) (k : Q (some (.int (fMay wh 7 bs))) w) : gM g d mX5_mayStandHere [.ref rt, .int 7] w Q := by
  refine gM.of (by decide) (Nat.le_of_ble_eq_true rfl) ?_
  replace k : Q (some (.int 1)) w := k
  refine g_iload_n dX5_mayStandHere_0 rfl ?_
  refine g_tableIn (off := 140) 141 dX5_mayStandHere_1 (by rw [show (7 : Int32) = 7 from rfl]; decide) (by rw [show (7 : Int32) = 7 from rfl]; decide) (by rw [show (7 : Int32) = 7 from rfl]; rfl) (by decide) ?_
  refine g_iconstV (v := 1) dX5_mayStandHere_141 (by decide) ?_
  refine g_zret dX5_mayStandHere_142 rfl rfl ?_
  exact k
set_option maxHeartbeats 4000000 in
set_option maxRecDepth 20000 in
theorem c_may12 {g : GE} {d : Nat} {w : GW} {Q : Option Value → GW → Prop} {P : PG} {O : Nat → Nat} {r rt : Nat} {wh : Nat → Int32} {bs : List (Nat × Nat × Nat)} (hr : gOb g w rt 5) (hB : BC g P O w r bs (gR w 322 rt)) (hs : ∀ b ∈ bs, SOK g P w wh r b) (hx : ∀ b ∈ bs, b.2.2 ≤ 3) (ho : gI w 324 rt = nI bs.length) (hl : bs.length ≤ 6) {v : Nat} (hv : 12 ≤ v) (hv2 : v < 25) (k : Q (some (.int (fMay wh v bs))) w) : gM g d mX5_mayStandHere [.ref rt, .int (nI v)] w Q := by
  refine gM.of (by decide) (Nat.le_of_ble_eq_true rfl) ?_
  have ek : fMay wh v bs = 1 := by unfold fMay; rw [if_neg (by omega), if_neg (by omega), if_neg (by omega), if_neg (by omega), if_neg (by omega), if_neg (by omega)]
  rw [ek] at k
  refine g_iload_n dX5_mayStandHere_0 rfl ?_
  refine g_tableOut 141 dX5_mayStandHere_1 (Or.inr ?_) (by decide) ?_
  · rw [nI_toInt (by omega)]; omega
  refine g_iconstV (v := 1) dX5_mayStandHere_141 (by decide) ?_
  refine g_zret dX5_mayStandHere_142 rfl rfl ?_
  exact k
theorem c_mayStand {g : GE} {d : Nat} {w : GW} {Q : Option Value → GW → Prop} (hd : 1 ≤ d) {P : PG} {O : Nat → Nat} {r rt : Nat} {wh : Nat → Int32} {bs : List (Nat × Nat × Nat)} (hr : gOb g w rt 5) (hB : BC g P O w r bs (gR w 322 rt)) (hs : ∀ b ∈ bs, SOK g P w wh r b) (hx : ∀ b ∈ bs, b.2.2 ≤ 3) (ho : gI w 324 rt = nI bs.length) (hl : bs.length ≤ 6) {v : Nat} (hv : v < 25) (k : Q (some (.int (fMay wh v bs))) w) : gM g d mX5_mayStandHere [.ref rt, .int (nI v)] w Q := by
  by_cases h12 : 12 ≤ v
  · exact c_may12 hr hB hs hx ho hl h12 hv k
  · rcases (show v = 0 ∨ v = 1 ∨ v = 2 ∨ v = 3 ∨ v = 4 ∨ v = 5 ∨ v = 6 ∨ v = 7 ∨ v = 8 ∨ v = 9 ∨ v = 10 ∨ v = 11 by omega) with rfl | rfl | rfl | rfl | rfl | rfl | rfl | rfl | rfl | rfl | rfl | rfl
    · exact c_may0 hr hB hs hx ho hl k
    · exact c_may1 hd hr hB hs hx ho hl k
    · exact c_may2 hd hr hB hs hx ho hl k
    · exact c_may3 hd hr hB hs hx ho hl k
    · exact c_may4 hd hr hB hs hx ho hl k
    · exact c_may5 hd hr hB hs hx ho hl k
    · exact c_may6 hd hr hB hs hx ho hl k
    · exact c_may7 hd hr hB hs hx ho hl k
    · exact c_may8 hd hr hB hs hx ho hl k
    · exact c_may9 hd hr hB hs hx ho hl k
    · exact c_may10 hd hr hB hs hx ho hl k
    · exact c_may11 hd hr hB hs hx ho hl k
