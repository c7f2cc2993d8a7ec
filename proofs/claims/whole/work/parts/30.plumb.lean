/-- a call that answers an int -/
def gMI (g : GE) (d : Nat) (Y : GM) (as : List Value) (w : GW) (Q : Int32 → GW → Prop) : Prop := gM g d Y as w (fun r w1 => gN w ≤ gN w1 ∧ ∃ v : Int32, r = some (.int v) ∧ Q v w1)
theorem gMI.imp {g : GE} {d : Nat} {Y : GM} {as : List Value} {w : GW} {Q Q1 : Int32 → GW → Prop} (h : gMI g d Y as w Q) (hq : ∀ v w1, gN w ≤ gN w1 → Q v w1 → Q1 v w1) : gMI g d Y as w Q1 := gM.imp h (fun r w1 _ _ h1 => ⟨h1.1, h1.2.choose, h1.2.choose_spec.1, hq _ _ h1.1 h1.2.choose_spec.2⟩)
theorem gMI_ans {g : GE} {d : Nat} {Y : GM} {as : List Value} {w w1 : GW} {v : Int32} (h : Ans g d Y as w (some (.int v)) w1) {Q : Int32 → GW → Prop} (hq : Q v w1) : gMI g d Y as w Q := by
  have h2 : gM g d Y as w (fun r w2 => r = some (.int v) ∧ w2 = w1) := h _ ⟨rfl, rfl⟩
  exact gM.imp h2 (fun r w2 hn _ hh => ⟨hn, v, hh.1, by rw [hh.2]; exact hq⟩)
theorem gMI_of {g : GE} {d : Nat} {Y : GM} {as : List Value} {w : GW} {Q : Int32 → GW → Prop} (h : gM g d Y as w (fun r w1 => ∃ v : Int32, r = some (.int v) ∧ Q v w1)) : gMI g d Y as w Q := gM.imp h (fun r w1 hn _ hh => ⟨hn, hh⟩)
set_option maxHeartbeats 4000000 in
set_option maxRecDepth 20000 in
theorem c_doPart {g : GE} {d : Nat} {w : GW} {Q : Int32 → GW → Prop} {cau : Option Nat} (hd : 1 ≤ d) {q p i t rt cl : Nat} (hS : SK g w) (hq : gOb g w q 7) (hi : gI w 452 q = nI i) (hn : gR w 455 q = some p) (hp : gOb g w p 7) (ht : gI w 452 p = nI t) (hM : gMI g (d - 1) mX0_doSteps [.ref (eB g + 1), .ref rt, .int (nI (i + 1)), .int (nI t), va_rf cau, .int (nI cl)] w Q) : gMI g d mX0_doPart [.ref (eB g + 1), .ref rt, .ref q, va_rf cau, .int (nI cl)] w Q := by
  refine gMI_of ?_
  have o1 : gOb g w (eB g + 1) 0 := hS.ob 1 rfl
  cases cau with
  | none =>
    refine gM.of (by decide) (Nat.le_of_ble_eq_true rfl) ?_
    refine g_aload_n dX0_doPart_0 rfl ?_
    refine g_aload_n dX0_doPart_1 rfl ?_
    refine g_aload_n dX0_doPart_2 rfl ?_
    refine g_getI 7 4 452 dX0_doPart_3 fX0_143 rfl rfl (by assumption) ?_
    refine g_iconstV (v := 1) dX0_doPart_6 (by decide) ?_
    refine g_iadd dX0_doPart_7 ?_
    rw [show gI w 452 q + 1 = nI (i + 1) by rw [hi]; exact nI_1 i]
    refine g_aload_n dX0_doPart_8 rfl ?_
    refine g_callV (d1 := d - 1) (As := []) 7 dX0_doPart_9 vX0_146 (by omega) (by assumption) rfl rfl (Nat.le_of_ble_eq_true rfl) ?_
    refine c_partEnd hq hn hp ?_
    rw [ht]
    refine g_aload_nN dX0_doPart_12 rfl ?_
    refine g_iload dX0_doPart_13 rfl ?_
    refine g_callV (d1 := d - 1) (As := [_, _, _, _, _]) 0 dX0_doPart_15 vX0_63 (by omega) (by assumption) rfl rfl (Nat.le_of_ble_eq_true rfl) ?_
    refine gM.imp hM (fun rv w1 _ _ hq1 => ?_)
    obtain ⟨-, v1, rfl, hq1⟩ := hq1
    refine g_iret dX0_doPart_18 rfl ?_
    exact ⟨_, rfl, hq1⟩
  | some cf =>
    refine gM.of (by decide) (Nat.le_of_ble_eq_true rfl) ?_
    refine g_aload_n dX0_doPart_0 rfl ?_
    refine g_aload_n dX0_doPart_1 rfl ?_
    refine g_aload_n dX0_doPart_2 rfl ?_
    refine g_getI 7 4 452 dX0_doPart_3 fX0_143 rfl rfl (by assumption) ?_
    refine g_iconstV (v := 1) dX0_doPart_6 (by decide) ?_
    refine g_iadd dX0_doPart_7 ?_
    rw [show gI w 452 q + 1 = nI (i + 1) by rw [hi]; exact nI_1 i]
    refine g_aload_n dX0_doPart_8 rfl ?_
    refine g_callV (d1 := d - 1) (As := []) 7 dX0_doPart_9 vX0_146 (by omega) (by assumption) rfl rfl (Nat.le_of_ble_eq_true rfl) ?_
    refine c_partEnd hq hn hp ?_
    rw [ht]
    refine g_aload_n dX0_doPart_12 rfl ?_
    refine g_iload dX0_doPart_13 rfl ?_
    refine g_callV (d1 := d - 1) (As := [_, _, _, _, _]) 0 dX0_doPart_15 vX0_63 (by omega) (by assumption) rfl rfl (Nat.le_of_ble_eq_true rfl) ?_
    refine gM.imp hM (fun rv w1 _ _ hq1 => ?_)
    obtain ⟨-, v1, rfl, hq1⟩ := hq1
    refine g_iret dX0_doPart_18 rfl ?_
    exact ⟨_, rfl, hq1⟩
/-- from cur on: the first CATCH part under which kind kd is (res), none if another part or the end comes first -/
def cCP (g : GE) (w : GW) (kd : Nat) : Nat → Nat → Option Nat → Prop
  | 0, p, res => gOb g w p 7 ∧ ((¬ gI w 448 p = 2 ∧ res = none) ∨ (gI w 448 p = 2 ∧ fU (gI w 449 p) 4 kd = 1 ∧ res = some p))
  | n + 1, p, res => gOb g w p 7 ∧ gI w 448 p = 2 ∧ fU (gI w 449 p) 4 kd = 0 ∧ ∃ p' : Nat, gR w 455 p = some p' ∧ cCP g w kd n p' res
/-- from part p on: the FINALLY part (res), none if there is none -/
def cFP (g : GE) (w : GW) : Nat → Nat → Option Nat → Prop
  | 0, p, res => gOb g w p 7 ∧ ((gI w 448 p = 3 ∧ res = some p) ∨ (¬ gI w 448 p = 3 ∧ gR w 455 p = none ∧ res = none))
  | n + 1, p, res => gOb g w p 7 ∧ ¬ gI w 448 p = 3 ∧ ∃ p' : Nat, gR w 455 p = some p' ∧ cFP g w n p' res
set_option maxHeartbeats 4000000 in
set_option maxRecDepth 20000 in
theorem c_catch_loop {g : GE} {d : Nat} {w : GW} {Q : Option Value → GW → Prop} (hd : 1 ≤ d) {q kd : Nat} {res : Option Nat} (hl : eOL g 4 = 12) (ha : ∀ j, j < 12 → eOF g 4 j = aTab j) (hkd : kd < 12) (k : Q (some (va_rf res)) w) : ∀ (n p : Nat), cCP g w kd n p res → gF g d mX7_catchPartFor 5 [(2, .ref p), (0, .ref q), (1, .int (nI kd))] [] w Q
  | 0, p, h => by
    obtain ⟨hp, h⟩ := h
    rcases h with ⟨h2, rfl⟩ | ⟨h2, h3, rfl⟩
    · refine g_aload_n dX7_catchPartFor_5 rfl ?_
      refine g_ifnull dX7_catchPartFor_6 ?_
      refine g_aload_n dX7_catchPartFor_9 rfl ?_
      refine g_getI 7 0 448 dX7_catchPartFor_10 fX7_7 rfl rfl (by assumption) ?_
      refine g_iconstV (v := 2) dX7_catchPartFor_13 (by decide) ?_
      refine g_icmp_ne 38 dX7_catchPartFor_14 (by decide) (fun _ => ?_) (fun q => absurd q (h2))
      refine g_null dX7_catchPartFor_38 ?_
      refine g_aretN dX7_catchPartFor_39 rfl ?_
      exact k
    · refine g_aload_n dX7_catchPartFor_5 rfl ?_
      refine g_ifnull dX7_catchPartFor_6 ?_
      refine g_aload_n dX7_catchPartFor_9 rfl ?_
      refine g_getI 7 0 448 dX7_catchPartFor_10 fX7_7 rfl rfl (by assumption) ?_
      refine g_iconstV (v := 2) dX7_catchPartFor_13 (by decide) ?_
      refine g_icmp_ne 38 dX7_catchPartFor_14 (by decide) (fun q => absurd (h2) q) (fun _ => ?_)
      refine g_iload_n dX7_catchPartFor_17 rfl ?_
      refine g_aload_n dX7_catchPartFor_18 rfl ?_
      refine g_getI 7 1 449 dX7_catchPartFor_19 fX7_13 rfl rfl (by assumption) ?_
      refine g_callS (d1 := d - 1) (As := [_, _]) dX7_catchPartFor_22 sX7_52 (by omega) rfl rfl (Nat.le_of_ble_eq_true rfl) ?_
      refine c_isUnder hl ha hkd ?_
      refine g_if_eq 30 dX7_catchPartFor_25 (by decide) (fun q => absurd q (by rw [h3]; decide)) (fun _ => ?_)
      refine g_aload_n dX7_catchPartFor_28 rfl ?_
      refine g_aret dX7_catchPartFor_29 rfl ?_
      exact k
  | n + 1, p, h => by
    obtain ⟨hp, h2, h3, p', hp', h⟩ := h
    refine g_aload_n dX7_catchPartFor_5 rfl ?_
    refine g_ifnull dX7_catchPartFor_6 ?_
    refine g_aload_n dX7_catchPartFor_9 rfl ?_
    refine g_getI 7 0 448 dX7_catchPartFor_10 fX7_7 rfl rfl (by assumption) ?_
    refine g_iconstV (v := 2) dX7_catchPartFor_13 (by decide) ?_
    refine g_icmp_ne 38 dX7_catchPartFor_14 (by decide) (fun q => absurd (h2) q) (fun _ => ?_)
    refine g_iload_n dX7_catchPartFor_17 rfl ?_
    refine g_aload_n dX7_catchPartFor_18 rfl ?_
    refine g_getI 7 1 449 dX7_catchPartFor_19 fX7_13 rfl rfl (by assumption) ?_
    refine g_callS (d1 := d - 1) (As := [_, _]) dX7_catchPartFor_22 sX7_52 (by omega) rfl rfl (Nat.le_of_ble_eq_true rfl) ?_
    refine c_isUnder hl ha hkd ?_
    refine g_if_eq 30 dX7_catchPartFor_25 (by decide) (fun _ => ?_) (fun q => absurd (h3) q)
    refine g_aload_n dX7_catchPartFor_30 rfl ?_
    refine g_getR 7 7 455 dX7_catchPartFor_31 fX7_48 rfl rfl (by assumption) (by assumption) ?_
    refine g_astore_n (lz := [(2, .ref p'), (0, .ref q), (1, .int (nI kd))]) dX7_catchPartFor_34 (by decide) rfl ?_
    refine g_goto 5 dX7_catchPartFor_35 (by decide) ?_
    exact c_catch_loop hd hl ha hkd k n p' h
set_option maxHeartbeats 4000000 in
set_option maxRecDepth 20000 in
theorem c_catchPartFor {g : GE} {d : Nat} {w : GW} {Q : Option Value → GW → Prop} (hd : 1 ≤ d) {q p kd n : Nat} {res : Option Nat} (hl : eOL g 4 = 12) (ha : ∀ j, j < 12 → eOF g 4 j = aTab j) (hkd : kd < 12) (hq : gOb g w q 7) (hp : gR w 455 q = some p) (hc : cCP g w kd n p res) (k : Q (some (va_rf res)) w) : gM g d mX7_catchPartFor [.ref q, .int (nI kd)] w Q := by
  refine gM.of (by decide) (Nat.le_of_ble_eq_true rfl) ?_
  refine g_aload_n dX7_catchPartFor_0 rfl ?_
  refine g_getR 7 7 455 dX7_catchPartFor_1 fX7_48 rfl rfl (by assumption) (by assumption) ?_
  refine g_astore_n dX7_catchPartFor_4 (by decide) rfl ?_
  exact c_catch_loop hd hl ha hkd k n p hc
set_option maxHeartbeats 4000000 in
set_option maxRecDepth 20000 in
theorem c_finally_loop {g : GE} {d : Nat} {w : GW} {Q : Option Value → GW → Prop} {q : Nat} {res : Option Nat} (k : Q (some (va_rf res)) w) : ∀ (n p : Nat), cFP g w n p res → gF g d mX7_finallyPart 5 [(1, .ref p), (0, .ref q)] [] w Q
  | 0, p, h => by
    obtain ⟨hp, h⟩ := h
    rcases h with ⟨h2, rfl⟩ | ⟨h2, h3, rfl⟩
    · refine g_aload_n dX7_finallyPart_5 rfl ?_
      refine g_ifnull dX7_finallyPart_6 ?_
      refine g_aload_n dX7_finallyPart_9 rfl ?_
      refine g_getI 7 0 448 dX7_finallyPart_10 fX7_7 rfl rfl (by assumption) ?_
      refine g_iconstV (v := 3) dX7_finallyPart_13 (by decide) ?_
      refine g_icmp_ne 19 dX7_finallyPart_14 (by decide) (fun q => absurd (h2) q) (fun _ => ?_)
      refine g_aload_n dX7_finallyPart_17 rfl ?_
      refine g_aret dX7_finallyPart_18 rfl ?_
      exact k
    · refine g_aload_n dX7_finallyPart_5 rfl ?_
      refine g_ifnull dX7_finallyPart_6 ?_
      refine g_aload_n dX7_finallyPart_9 rfl ?_
      refine g_getI 7 0 448 dX7_finallyPart_10 fX7_7 rfl rfl (by assumption) ?_
      refine g_iconstV (v := 3) dX7_finallyPart_13 (by decide) ?_
      refine g_icmp_ne 19 dX7_finallyPart_14 (by decide) (fun _ => ?_) (fun q => absurd q (h2))
      refine g_aload_n dX7_finallyPart_19 rfl ?_
      refine g_getN 7 7 455 dX7_finallyPart_20 fX7_48 rfl rfl hp h3 ?_
      refine g_astore_nN dX7_finallyPart_23 (by decide) rfl ?_
      refine g_goto 5 dX7_finallyPart_24 (by decide) ?_
      refine g_aload_nN dX7_finallyPart_5 rfl ?_
      refine g_ifnullN 27 dX7_finallyPart_6 (by decide) ?_
      refine g_null dX7_finallyPart_27 ?_
      refine g_aretN dX7_finallyPart_28 rfl ?_
      exact k
  | n + 1, p, h => by
    obtain ⟨hp, h2, p', hp', h⟩ := h
    refine g_aload_n dX7_finallyPart_5 rfl ?_
    refine g_ifnull dX7_finallyPart_6 ?_
    refine g_aload_n dX7_finallyPart_9 rfl ?_
    refine g_getI 7 0 448 dX7_finallyPart_10 fX7_7 rfl rfl (by assumption) ?_
    refine g_iconstV (v := 3) dX7_finallyPart_13 (by decide) ?_
    refine g_icmp_ne 19 dX7_finallyPart_14 (by decide) (fun _ => ?_) (fun q => absurd q (h2))
    refine g_aload_n dX7_finallyPart_19 rfl ?_
    refine g_getR 7 7 455 dX7_finallyPart_20 fX7_48 rfl rfl (by assumption) (by assumption) ?_
    refine g_astore_n (lz := [(1, .ref p'), (0, .ref q)]) dX7_finallyPart_23 (by decide) rfl ?_
    refine g_goto 5 dX7_finallyPart_24 (by decide) ?_
    exact c_finally_loop k n p' h
set_option maxHeartbeats 4000000 in
set_option maxRecDepth 20000 in
theorem c_finallyPart {g : GE} {d : Nat} {w : GW} {Q : Option Value → GW → Prop} {q p n : Nat} {res : Option Nat} (hq : gOb g w q 7) (hp : gR w 455 q = some p) (hc : cFP g w n p res) (k : Q (some (va_rf res)) w) : gM g d mX7_finallyPart [.ref q] w Q := by
  refine gM.of (by decide) (Nat.le_of_ble_eq_true rfl) ?_
  refine g_aload_n dX7_finallyPart_0 rfl ?_
  refine g_getR 7 7 455 dX7_finallyPart_1 fX7_48 rfl rfl (by assumption) (by assumption) ?_
  refine g_astore_n dX7_finallyPart_4 (by decide) rfl ?_
  exact c_finally_loop k n p hc
set_option maxHeartbeats 4000000 in
set_option maxRecDepth 20000 in
theorem c_stepAt {g : GE} {d : Nat} {w : GW} {Q : Option Value → GW → Prop} {r i s q : Nat} (hS : SK g w) (hr : r < 4) (hs : gI w 323 (aRt g r) = nI s) (his : i < s) (hs4 : s ≤ 40) (hq : gP w (aSt g r) i = some q) (k : Q (some (.ref q)) w) : gM g d mX5_stepAt [.ref (aRt g r), .int (nI i)] w Q := by
  refine gM.of (by decide) (Nat.le_of_ble_eq_true rfl) ?_
  obtain ⟨o1, o2, l2, r2, i1, p1⟩ := hS.rt hr
  refine g_iload_n dX5_stepAt_0 rfl ?_
  refine g_if_lt 27 dX5_stepAt_1 (by decide) (fun q => absurd q (nI_pos (by omega))) (fun _ => ?_)
  refine g_iload_n dX5_stepAt_4 rfl ?_
  refine g_aload_n dX5_stepAt_5 rfl ?_
  refine g_getI 5 3 323 dX5_stepAt_6 fX5_19 rfl rfl (by assumption) ?_
  refine g_icmp_ge 27 dX5_stepAt_9 (by decide) (fun q => absurd q (by rw [hs]; exact nI_ge his (by omega))) (fun _ => ?_)
  refine g_iload_n dX5_stepAt_12 rfl ?_
  refine g_bipushV (v := 40) dX5_stepAt_13 (by decide) ?_
  refine g_icmp_ge 27 dX5_stepAt_15 (by decide) (fun q => absurd q (nI_ge (b := 40) (by omega) (by decide))) (fun _ => ?_)
  refine g_aload_n dX5_stepAt_18 rfl ?_
  refine g_getR 5 1 321 dX5_stepAt_19 fX5_15 rfl rfl (by assumption) (by assumption) ?_
  refine g_iload_n dX5_stepAt_22 rfl ?_
  refine g_aald15 dX5_stepAt_23 o2 rfl (by rw [l2]; omega) hq ?_
  refine g_goto 28 dX5_stepAt_24 (by decide) ?_
  refine g_aret dX5_stepAt_28 rfl ?_
  exact k
theorem mx_link : Cond.methodLink RX0 85 Lib.Math.max.name ∈ gT := gT_in (i := 571) (by decide +kernel) rfl
theorem mx_stat : Cond.static Lib.Math.max.name ∈ gT := gT_in (i := 572) (by decide +kernel) rfl
theorem mx_init : Cond.initialized "java/lang/Math" ∈ gT := gT_in (i := 71) (by decide +kernel) rfl
theorem mx_code : Cond.code Lib.Math.max.name Lib.Math.max.code 2 (some .int) ∈ gT := gT_in (i := 573) (by decide +kernel) rfl
theorem g_max {g : GE} {d : Nat} {Y : GM} {pc : Nat} {ls : List (Nat × Value)} {st : List Value} {w : GW} {Q : Option Value → GW → Prop} {x y : Int32} (hY : Y.1.cls = RX0) (hd : decode Y.2.1 pc = .ok (.invokestatic 85, 3)) (hd1 : 1 ≤ d) (hsum : (st.map fun v => v.category).sum ≤ 8) (k : gF g d Y (pc + 3) ls (.int (if x < y then y else x) :: st) w Q) : gF g d Y pc ls (.int y :: .int x :: st) w Q := by
  obtain ⟨r, w', hq, hn, hu, hG⟩ := k
  refine ⟨r, w', hq, hn, hu, ?_⟩
  intro p e R s m args below meth c n0 u0 H locs lsA C h1 h2 h3 h4 h5 h6 h7
  obtain ⟨hx, hb, hml, hown, hts, hlk, hrt, hnm, hK, hZ, hAO, hdf, hdl⟩ := id C
  rw [hY] at hown
  exact va_mmax hx hb (by rw [hml]; exact h7.1.symm) hown (hts _ mx_link) (hts _ mx_stat) (hts _ mx_init) (hts _ mx_code) (by omega) (by omega) (by omega) (by omega) hd (hG p e R s m args below meth c n0 u0 H locs lsA C h1 h2 h3 h4 h5 h6 h7)
