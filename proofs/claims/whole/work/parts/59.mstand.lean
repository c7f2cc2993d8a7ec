/-! ===== the model's open blocks ===== -/
def nth : List (Nat × Nat × Nat) → Nat → Nat × Nat × Nat
  | [], _ => (0, 0, 0)
  | b :: bs, k => if k = bs.length then b else nth bs k
theorem nth_top (b : Nat × Nat × Nat) (bs : List (Nat × Nat × Nat)) : nth (b :: bs) bs.length = b := by show (if bs.length = bs.length then b else _) = b; rw [if_pos rfl]
theorem nth_old {b : Nat × Nat × Nat} {bs : List (Nat × Nat × Nat)} {k : Nat} (h : k < bs.length) : nth (b :: bs) k = nth bs k := by show (if k = bs.length then b else _) = _; rw [if_neg (by omega)]
theorem nth_mem : ∀ {bs : List (Nat × Nat × Nat)} {k : Nat}, k < bs.length → nth bs k ∈ bs
  | [], k, h => absurd h (Nat.not_lt_zero _)
  | b :: bs, k, h => by
    by_cases e : k = bs.length
    · subst e; rw [nth_top]; exact List.mem_cons_self
    · have : k < bs.length := by rw [List.length_cons] at h; omega
      rw [nth_old this]; exact List.mem_cons_of_mem _ (nth_mem this)
def MX (σ : MW) (r : Nat) (bs : List (Nat × Nat × Nat)) : Prop := mI σ 11 = nI r ∧ r < 4 ∧ mA σ 7 r = nI bs.length ∧ bs.length ≤ 6 ∧ ∀ k, k < bs.length → mA σ 8 (6 * r + k) = nI (40 * r + (nth bs k).1) ∧ mA σ 9 (6 * r + k) = nI (40 * r + (nth bs k).2.1) ∧ mA σ 10 (6 * r + k) = nI (nth bs k).2.2 ∧ (nth bs k).1 < 40 ∧ (nth bs k).2.1 < 40 ∧ (nth bs k).2.2 ≤ 3
theorem fPO_no {wh : Nat → Int32} {v : Int32} : ∀ {bs : List (Nat × Nat × Nat)}, (∀ j, j < bs.length → ¬ wh (nth bs j).2.1 = v) → fPO wh v bs = 0
  | [], _ => rfl
  | b :: bs, h => by
    have h1 := h bs.length (by rw [List.length_cons]; omega)
    rw [nth_top] at h1
    unfold fPO
    rw [if_neg h1]
    exact fPO_no (fun j hj => by have := h j (by rw [List.length_cons]; omega); rwa [nth_old hj] at this)
theorem fPO_yes {wh : Nat → Int32} {v : Int32} : ∀ {bs : List (Nat × Nat × Nat)} {j : Nat}, j < bs.length → wh (nth bs j).2.1 = v → fPO wh v bs = 1
  | [], j, h, _ => absurd h (Nat.not_lt_zero _)
  | b :: bs, j, h, hv => by
    unfold fPO
    by_cases h1 : wh b.2.1 = v
    · rw [if_pos h1]
    · rw [if_neg h1]
      have hj : j < bs.length := by
        rw [List.length_cons] at h
        rcases Nat.lt_or_ge j bs.length with q | q
        · exact q
        · have e : j = bs.length := by omega
          subst e; rw [nth_top] at hv; exact absurd hv h1
      rw [nth_old hj] at hv
      exact fPO_yes hj hv
theorem fLv_no {wh : Nat → Int32} : ∀ {bs : List (Nat × Nat × Nat)}, (∀ j, j < bs.length → ¬ wh (nth bs j).1 = 4) → fLv wh bs = 0
  | [], _ => rfl
  | b :: bs, h => by
    have h1 := h bs.length (by rw [List.length_cons]; omega)
    rw [nth_top] at h1
    unfold fLv
    rw [if_neg h1]
    split
    · rfl
    · exact fLv_no (fun j hj => by have := h j (by rw [List.length_cons]; omega); rwa [nth_old hj] at this)
theorem fLv_yes {wh : Nat → Int32} : ∀ {bs : List (Nat × Nat × Nat)} {k : Nat}, k < bs.length → wh (nth bs k).1 = 4 → (∀ j, k ≤ j → j < bs.length → ¬ wh (nth bs j).2.1 = 3) → fLv wh bs = 1
  | [], k, h, _, _ => absurd h (Nat.not_lt_zero _)
  | b :: bs, k, h, hv, hn => by
    unfold fLv
    rw [List.length_cons] at h
    by_cases h1 : wh b.1 = 4
    · rw [if_pos h1]
    · have hk : k < bs.length := by
        rcases Nat.lt_or_ge k bs.length with q | q
        · exact q
        · have e : k = bs.length := by omega
          subst e; rw [nth_top] at hv; exact absurd hv h1
      have h2 := hn bs.length (by omega) (by rw [List.length_cons]; omega)
      rw [nth_top] at h2
      rw [if_neg h1, if_neg h2]
      rw [nth_old hk] at hv
      exact fLv_yes hk hv (fun j z1 z2 => by have := hn j z1 (by rw [List.length_cons]; omega); rwa [nth_old z2] at this)
theorem fLv_fin {wh : Nat → Int32} : ∀ {bs : List (Nat × Nat × Nat)} {k j : Nat}, (∀ i, k < i → i < bs.length → ¬ wh (nth bs i).1 = 4) → k < j → j < bs.length → wh (nth bs j).2.1 = 3 → fLv wh bs = 0
  | [], k, j, _, _, h, _ => absurd h (Nat.not_lt_zero _)
  | b :: bs, k, j, hk, hkj, hj, hv => by
    rw [List.length_cons] at hj
    have h1 := hk bs.length (by omega) (by rw [List.length_cons]; omega)
    rw [nth_top] at h1
    unfold fLv
    rw [if_neg h1]
    by_cases h2 : wh b.2.1 = 3
    · rw [if_pos h2]
    · rw [if_neg h2]
      have hj2 : j < bs.length := by
        rcases Nat.lt_or_ge j bs.length with q | q
        · exact q
        · have e : j = bs.length := by omega
          subst e; rw [nth_top] at hv; exact absurd hv h2
      rw [nth_old hj2] at hv
      exact fLv_fin (fun i z1 z2 => by have := hk i z1 (by rw [List.length_cons]; omega); rwa [nth_old z2] at this) hkj hj2 hv
set_option maxHeartbeats 4000000 in
set_option maxRecDepth 20000 in
theorem m_partAt {g : GE} {d : Nat} {w : GW} {σ : MW} {Q : Option Value → GW → Prop} (hS : SK g w) {r : Nat} {bs : List (Nat × Nat × Nat)} (hX : MX σ r bs) {k0 : Nat} (hk : k0 < bs.length) (k : Q (some (.int (mA σ 0 (40 * r + (nth bs k0).2.1)))) (put g σ w)) : gM g d mX10_partAt [.ref (eB g + 70), .int (nI k0)] (put g σ w) Q := by
  refine gM.of (by decide) (Nat.le_of_ble_eq_true rfl) ?_
  obtain ⟨hR, hr4, hD, hL, hK⟩ := id hX
  obtain ⟨a1, a2, a3, a4, a5, a6⟩ := hK k0 hk
  have e6 : (6 : Int32) * nI r + nI k0 = nI (6 * r + k0) := by rw [show (6 : Int32) = nI 6 from rfl, pk_mul, nI_add]
  refine g_aload_n dX10_partAt_0 rfl ?_
  refine mg_getA 0 0 dX10_partAt_1 fX10_7 rfl rt_0 hS ?_
  refine g_aload_n dX10_partAt_4 rfl ?_
  refine mg_getA 9 9 dX10_partAt_5 fX10_37 rfl rt_9 hS ?_
  refine g_bipushV (v := 6) dX10_partAt_8 (by decide) ?_
  refine g_aload_n dX10_partAt_10 rfl ?_
  refine mg_getI 11 dX10_partAt_11 fX10_104 rfl (by decide) hS ?_
  refine g_imul dX10_partAt_14 ?_
  rw [hR]
  refine g_iload_n dX10_partAt_15 rfl ?_
  refine g_iadd dX10_partAt_16 ?_
  rw [e6]
  refine mg_iald dX10_partAt_17 rfl rfl rfl (by omega) hS ?_
  rw [a2]
  refine mg_iald dX10_partAt_18 (by first | exact rfl | assumption) rfl rfl (by omega) hS ?_
  refine g_iret dX10_partAt_19 rfl ?_
  exact k
set_option maxHeartbeats 4000000 in
set_option maxRecDepth 20000 in
theorem m_isPartOpen_loop {g : GE} {d : Nat} {w : GW} {σ : MW} {Q : Option Value → GW → Prop} (hd : 1 ≤ d) (hS : SK g w) {r : Nat} {bs : List (Nat × Nat × Nat)} (hX : MX σ r bs) {f : Nat} {v : Int32} (K : ∀ res : Int32, (res = 0 ∧ ∀ j, f ≤ j → j < bs.length → ¬ mA σ 0 (40 * r + (nth bs j).2.1) = v) ∨ (res = 1 ∧ ∃ j, f ≤ j ∧ j < bs.length ∧ mA σ 0 (40 * r + (nth bs j).2.1) = v) → Q (some (.int res)) (put g σ w)) : ∀ (m i : Nat) (is : Int32), i + m = bs.length → f ≤ i → ((is = 0 ∧ ∀ j, f ≤ j → j < i → ¬ mA σ 0 (40 * r + (nth bs j).2.1) = v) ∨ (is = 1 ∧ ∃ j, f ≤ j ∧ j < i ∧ mA σ 0 (40 * r + (nth bs j).2.1) = v)) → gF g d mX10_isPartOpen 5 [(4, .int (nI i)), (3, .int is), (0, .ref (eB g + 70)), (1, .int v), (2, .int (nI f))] [] (put g σ w) Q
  | 0, i, is, hi, hf, hz => by
    obtain ⟨hR, hr4, hD, hL, hK⟩ := id hX
    have e : i = bs.length := by omega
    subst e
    have hb : is = 0 ∨ is = 1 := hz.elim (fun z => Or.inl z.1) (fun z => Or.inr z.1)
    refine g_iload dX10_isPartOpen_5 rfl ?_
    refine g_aload_n dX10_isPartOpen_7 rfl ?_
    refine mg_getA 7 7 dX10_isPartOpen_8 fX10_31 rfl rt_7 hS ?_
    refine g_aload_n dX10_isPartOpen_11 rfl ?_
    refine mg_getI 11 dX10_isPartOpen_12 fX10_104 rfl (by decide) hS ?_
    rw [hR]
    refine mg_iald dX10_isPartOpen_15 rfl rfl rfl (by omega) hS ?_
    rw [hD]
    refine g_icmp_ge 45 dX10_isPartOpen_16 (by decide) (fun _ => ?_) (fun q => absurd (nI_le (Nat.le_refl _) (by omega)) q)
    refine g_iload_n dX10_isPartOpen_45 rfl ?_
    refine g_zret dX10_isPartOpen_46 rfl (zb_of hb) ?_
    exact K is hz
  | m + 1, i, is, hi, hf, hz => by
    obtain ⟨hR, hr4, hD, hL, hK⟩ := id hX
    rcases hz with ⟨rfl, z⟩ | ⟨rfl, j, z1, z2, z3⟩
    · have hdum := z
      refine g_iload dX10_isPartOpen_5 rfl ?_
      refine g_aload_n dX10_isPartOpen_7 rfl ?_
      refine mg_getA 7 7 dX10_isPartOpen_8 fX10_31 rfl rt_7 hS ?_
      refine g_aload_n dX10_isPartOpen_11 rfl ?_
      refine mg_getI 11 dX10_isPartOpen_12 fX10_104 rfl (by decide) hS ?_
      rw [hR]
      refine mg_iald dX10_isPartOpen_15 rfl rfl rfl (by omega) hS ?_
      rw [hD]
      refine g_icmp_ge 45 dX10_isPartOpen_16 (by decide) (fun q => absurd q (nI_ge (by omega) (by omega))) (fun _ => ?_)
      refine g_iload_n dX10_isPartOpen_19 rfl ?_
      refine g_if_ne 33 dX10_isPartOpen_20 (by decide) (fun q => absurd (rfl) q) (fun _ => ?_)
      refine g_aload_n dX10_isPartOpen_23 rfl ?_
      refine g_iload dX10_isPartOpen_24 rfl ?_
      refine g_callV (d1 := d - 1) (As := [_]) 9 dX10_isPartOpen_26 vX10_114 (by omega) (mg_ob hS) rfl rfl (Nat.le_of_ble_eq_true rfl) ?_
      refine m_partAt hS hX (by omega) ?_
      refine g_iload_n dX10_isPartOpen_29 rfl ?_
      refine g_icmp_ne 37 dX10_isPartOpen_30 (by decide) (fun c1 => ?_) (fun c1 => ?_)
      · refine g_iconstV (v := 0) dX10_isPartOpen_37 (by decide) ?_
        refine g_istore_n dX10_isPartOpen_38 (by decide) rfl ?_
        refine g_iinc (lz := [(4, .int (nI (i + 1))), (3, .int 0), (0, .ref (eB g + 70)), (1, .int v), (2, .int (nI f))]) dX10_isPartOpen_39 rfl (by decide) (by rw [show nI i + Int32.ofInt 1 = nI (i + 1) from nI_1 i]; rfl) ?_
        refine g_goto 5 dX10_isPartOpen_42 (by decide) ?_
        exact m_isPartOpen_loop hd hS hX K m (i + 1) 0 (by omega) (by omega) (Or.inl ⟨rfl, fun j y1 y2 => by
          by_cases e : j = i
          · subst e; exact c1
          · exact z j y1 (by omega)⟩)
      · refine g_iconstV (v := 1) dX10_isPartOpen_33 (by decide) ?_
        refine g_goto 38 dX10_isPartOpen_34 (by decide) ?_
        refine g_istore_n dX10_isPartOpen_38 (by decide) rfl ?_
        refine g_iinc (lz := [(4, .int (nI (i + 1))), (3, .int 1), (0, .ref (eB g + 70)), (1, .int v), (2, .int (nI f))]) dX10_isPartOpen_39 rfl (by decide) (by rw [show nI i + Int32.ofInt 1 = nI (i + 1) from nI_1 i]; rfl) ?_
        refine g_goto 5 dX10_isPartOpen_42 (by decide) ?_
        exact m_isPartOpen_loop hd hS hX K m (i + 1) 1 (by omega) (by omega) (Or.inr ⟨rfl, i, hf, by omega, c1⟩)
    · have hdum := z2
      refine g_iload dX10_isPartOpen_5 rfl ?_
      refine g_aload_n dX10_isPartOpen_7 rfl ?_
      refine mg_getA 7 7 dX10_isPartOpen_8 fX10_31 rfl rt_7 hS ?_
      refine g_aload_n dX10_isPartOpen_11 rfl ?_
      refine mg_getI 11 dX10_isPartOpen_12 fX10_104 rfl (by decide) hS ?_
      rw [hR]
      refine mg_iald dX10_isPartOpen_15 rfl rfl rfl (by omega) hS ?_
      rw [hD]
      refine g_icmp_ge 45 dX10_isPartOpen_16 (by decide) (fun q => absurd q (nI_ge (by omega) (by omega))) (fun _ => ?_)
      refine g_iload_n dX10_isPartOpen_19 rfl ?_
      refine g_if_ne 33 dX10_isPartOpen_20 (by decide) (fun _ => ?_) (fun q => absurd q (by decide))
      refine g_iconstV (v := 1) dX10_isPartOpen_33 (by decide) ?_
      refine g_goto 38 dX10_isPartOpen_34 (by decide) ?_
      refine g_istore_n dX10_isPartOpen_38 (by decide) rfl ?_
      refine g_iinc (lz := [(4, .int (nI (i + 1))), (3, .int 1), (0, .ref (eB g + 70)), (1, .int v), (2, .int (nI f))]) dX10_isPartOpen_39 rfl (by decide) (by rw [show nI i + Int32.ofInt 1 = nI (i + 1) from nI_1 i]; rfl) ?_
      refine g_goto 5 dX10_isPartOpen_42 (by decide) ?_
      exact m_isPartOpen_loop hd hS hX K m (i + 1) 1 (by omega) (by omega) (Or.inr ⟨rfl, j, z1, by omega, z3⟩)
set_option maxHeartbeats 4000000 in
set_option maxRecDepth 20000 in
theorem m_isPartOpen {g : GE} {d : Nat} {w : GW} {σ : MW} {Q : Option Value → GW → Prop} (hd : 1 ≤ d) (hS : SK g w) {r : Nat} {bs : List (Nat × Nat × Nat)} (hX : MX σ r bs) {f : Nat} {v : Int32} (hf : f ≤ bs.length) (K : ∀ res : Int32, (res = 0 ∧ ∀ j, f ≤ j → j < bs.length → ¬ mA σ 0 (40 * r + (nth bs j).2.1) = v) ∨ (res = 1 ∧ ∃ j, f ≤ j ∧ j < bs.length ∧ mA σ 0 (40 * r + (nth bs j).2.1) = v) → Q (some (.int res)) (put g σ w)) : gM g d mX10_isPartOpen [.ref (eB g + 70), .int v, .int (nI f)] (put g σ w) Q := by
  refine gM.of (by decide) (Nat.le_of_ble_eq_true rfl) ?_
  refine g_iconstV (v := 0) dX10_isPartOpen_0 (by decide) ?_
  refine g_istore_n dX10_isPartOpen_1 (by decide) rfl ?_
  refine g_iload_n dX10_isPartOpen_2 rfl ?_
  refine g_istore dX10_isPartOpen_3 (by decide) rfl ?_
  exact m_isPartOpen_loop hd hS hX K (bs.length - f) f 0 (by omega) (Nat.le_refl _) (Or.inl ⟨rfl, fun j z1 z2 => absurd z2 (by omega)⟩)
set_option maxHeartbeats 4000000 in
set_option maxRecDepth 20000 in
theorem m_may1 {g : GE} {d : Nat} {w : GW} {σ : MW} {Q : Option Value → GW → Prop} (hd : 2 ≤ d) (hS : SK g w) {r : Nat} {bs : List (Nat × Nat × Nat)} (hX : MX σ r bs) (k : Q (some (.int (fMay (fun i => mA σ 0 (40 * r + i)) 1 bs))) (put g σ w)) : gM g d mX10_mayStand [.ref (eB g + 70), .int 1] (put g σ w) Q := by
  refine gM.of (by decide) (Nat.le_of_ble_eq_true rfl) ?_
  obtain ⟨hR, hr4, hD, hL, hK⟩ := id hX
  have e6 : ∀ k, (6 : Int32) * nI r + nI k = nI (6 * r + k) := fun k => by rw [show (6 : Int32) = nI 6 from rfl, pk_mul, nI_add]
  replace k : Q (some (.int (if bs.length < 6 then 1 else 0))) (put g σ w) := k
  have e7 : nI 6 ≤ nI bs.length ↔ ¬ bs.length < 6 := ⟨fun z y => nI_ge y (by decide) z, fun z => nI_le (by omega) (by omega)⟩
  refine g_aload_n dX10_mayStand_0 rfl ?_
  refine mg_getA 7 7 dX10_mayStand_1 fX10_31 rfl rt_7 hS ?_
  refine g_aload_n dX10_mayStand_4 rfl ?_
  refine mg_getI 11 dX10_mayStand_5 fX10_104 rfl (by decide) hS ?_
  rw [hR]
  refine mg_iald dX10_mayStand_8 rfl rfl rfl (by omega) hS ?_
  rw [hD]
  refine g_istore_n dX10_mayStand_9 (by decide) rfl ?_
  refine g_bipushV (v := 6) dX10_mayStand_10 (by decide) ?_
  refine g_aload_n dX10_mayStand_12 rfl ?_
  refine mg_getI 11 dX10_mayStand_13 fX10_104 rfl (by decide) hS ?_
  rw [hR]
  refine g_imul dX10_mayStand_16 ?_
  refine g_iload_n dX10_mayStand_17 rfl ?_
  refine g_iadd dX10_mayStand_18 ?_
  rw [e6]
  refine g_iconstV (v := 1) dX10_mayStand_19 (by decide) ?_
  refine g_isub dX10_mayStand_20 ?_
  refine g_istore_n dX10_mayStand_21 (by decide) rfl ?_
  refine g_iload_n dX10_mayStand_22 rfl ?_
  refine g_callS (d1 := d - 1) (As := [_]) dX10_mayStand_23 sX10_118 (by omega) rfl rfl (Nat.le_of_ble_eq_true rfl) ?_
  refine m_isBlock ?_
  refine g_if_eq 41 dX10_mayStand_26 (by decide) (fun q => absurd q (by decide)) (fun _ => ?_)
  refine g_iload_n dX10_mayStand_29 rfl ?_
  refine g_bipushV (v := 6) dX10_mayStand_30 (by decide) ?_
  refine g_icmp_ge 39 dX10_mayStand_32 (by decide) (fun c1 => ?_) (fun c1 => ?_)
  · refine g_iconstV (v := 0) dX10_mayStand_39 (by decide) ?_
    refine g_zret dX10_mayStand_40 rfl rfl ?_
    rw [if_neg (e7.mp c1)] at k
    exact k
  · refine g_iconstV (v := 1) dX10_mayStand_35 (by decide) ?_
    refine g_goto 40 dX10_mayStand_36 (by decide) ?_
    refine g_zret dX10_mayStand_40 rfl rfl ?_
    rw [if_pos (Classical.byContradiction fun z => c1 (e7.mpr z))] at k
    exact k
set_option maxHeartbeats 4000000 in
set_option maxRecDepth 20000 in
theorem m_may4 {g : GE} {d : Nat} {w : GW} {σ : MW} {Q : Option Value → GW → Prop} (hd : 2 ≤ d) (hS : SK g w) {r : Nat} {bs : List (Nat × Nat × Nat)} (hX : MX σ r bs) (k : Q (some (.int (fMay (fun i => mA σ 0 (40 * r + i)) 4 bs))) (put g σ w)) : gM g d mX10_mayStand [.ref (eB g + 70), .int 4] (put g σ w) Q := by
  refine gM.of (by decide) (Nat.le_of_ble_eq_true rfl) ?_
  obtain ⟨hR, hr4, hD, hL, hK⟩ := id hX
  have e6 : ∀ k, (6 : Int32) * nI r + nI k = nI (6 * r + k) := fun k => by rw [show (6 : Int32) = nI 6 from rfl, pk_mul, nI_add]
  replace k : Q (some (.int (if bs.length < 6 then 1 else 0))) (put g σ w) := k
  have e7 : nI 6 ≤ nI bs.length ↔ ¬ bs.length < 6 := ⟨fun z y => nI_ge y (by decide) z, fun z => nI_le (by omega) (by omega)⟩
  refine g_aload_n dX10_mayStand_0 rfl ?_
  refine mg_getA 7 7 dX10_mayStand_1 fX10_31 rfl rt_7 hS ?_
  refine g_aload_n dX10_mayStand_4 rfl ?_
  refine mg_getI 11 dX10_mayStand_5 fX10_104 rfl (by decide) hS ?_
  rw [hR]
  refine mg_iald dX10_mayStand_8 rfl rfl rfl (by omega) hS ?_
  rw [hD]
  refine g_istore_n dX10_mayStand_9 (by decide) rfl ?_
  refine g_bipushV (v := 6) dX10_mayStand_10 (by decide) ?_
  refine g_aload_n dX10_mayStand_12 rfl ?_
  refine mg_getI 11 dX10_mayStand_13 fX10_104 rfl (by decide) hS ?_
  rw [hR]
  refine g_imul dX10_mayStand_16 ?_
  refine g_iload_n dX10_mayStand_17 rfl ?_
  refine g_iadd dX10_mayStand_18 ?_
  rw [e6]
  refine g_iconstV (v := 1) dX10_mayStand_19 (by decide) ?_
  refine g_isub dX10_mayStand_20 ?_
  refine g_istore_n dX10_mayStand_21 (by decide) rfl ?_
  refine g_iload_n dX10_mayStand_22 rfl ?_
  refine g_callS (d1 := d - 1) (As := [_]) dX10_mayStand_23 sX10_118 (by omega) rfl rfl (Nat.le_of_ble_eq_true rfl) ?_
  refine m_isBlock ?_
  refine g_if_eq 41 dX10_mayStand_26 (by decide) (fun q => absurd q (by decide)) (fun _ => ?_)
  refine g_iload_n dX10_mayStand_29 rfl ?_
  refine g_bipushV (v := 6) dX10_mayStand_30 (by decide) ?_
  refine g_icmp_ge 39 dX10_mayStand_32 (by decide) (fun c1 => ?_) (fun c1 => ?_)
  · refine g_iconstV (v := 0) dX10_mayStand_39 (by decide) ?_
    refine g_zret dX10_mayStand_40 rfl rfl ?_
    rw [if_neg (e7.mp c1)] at k
    exact k
  · refine g_iconstV (v := 1) dX10_mayStand_35 (by decide) ?_
    refine g_goto 40 dX10_mayStand_36 (by decide) ?_
    refine g_zret dX10_mayStand_40 rfl rfl ?_
    rw [if_pos (Classical.byContradiction fun z => c1 (e7.mpr z))] at k
    exact k
set_option maxHeartbeats 4000000 in
set_option maxRecDepth 20000 in
theorem m_may11 {g : GE} {d : Nat} {w : GW} {σ : MW} {Q : Option Value → GW → Prop} (hd : 2 ≤ d) (hS : SK g w) {r : Nat} {bs : List (Nat × Nat × Nat)} (hX : MX σ r bs) (k : Q (some (.int (fMay (fun i => mA σ 0 (40 * r + i)) 11 bs))) (put g σ w)) : gM g d mX10_mayStand [.ref (eB g + 70), .int 11] (put g σ w) Q := by
  refine gM.of (by decide) (Nat.le_of_ble_eq_true rfl) ?_
  obtain ⟨hR, hr4, hD, hL, hK⟩ := id hX
  have e6 : ∀ k, (6 : Int32) * nI r + nI k = nI (6 * r + k) := fun k => by rw [show (6 : Int32) = nI 6 from rfl, pk_mul, nI_add]
  replace k : Q (some (.int (if bs.length < 6 then 1 else 0))) (put g σ w) := k
  have e7 : nI 6 ≤ nI bs.length ↔ ¬ bs.length < 6 := ⟨fun z y => nI_ge y (by decide) z, fun z => nI_le (by omega) (by omega)⟩
  refine g_aload_n dX10_mayStand_0 rfl ?_
  refine mg_getA 7 7 dX10_mayStand_1 fX10_31 rfl rt_7 hS ?_
  refine g_aload_n dX10_mayStand_4 rfl ?_
  refine mg_getI 11 dX10_mayStand_5 fX10_104 rfl (by decide) hS ?_
  rw [hR]
  refine mg_iald dX10_mayStand_8 rfl rfl rfl (by omega) hS ?_
  rw [hD]
  refine g_istore_n dX10_mayStand_9 (by decide) rfl ?_
  refine g_bipushV (v := 6) dX10_mayStand_10 (by decide) ?_
  refine g_aload_n dX10_mayStand_12 rfl ?_
  refine mg_getI 11 dX10_mayStand_13 fX10_104 rfl (by decide) hS ?_
  rw [hR]
  refine g_imul dX10_mayStand_16 ?_
  refine g_iload_n dX10_mayStand_17 rfl ?_
  refine g_iadd dX10_mayStand_18 ?_
  rw [e6]
  refine g_iconstV (v := 1) dX10_mayStand_19 (by decide) ?_
  refine g_isub dX10_mayStand_20 ?_
  refine g_istore_n dX10_mayStand_21 (by decide) rfl ?_
  refine g_iload_n dX10_mayStand_22 rfl ?_
  refine g_callS (d1 := d - 1) (As := [_]) dX10_mayStand_23 sX10_118 (by omega) rfl rfl (Nat.le_of_ble_eq_true rfl) ?_
  refine m_isBlock ?_
  refine g_if_eq 41 dX10_mayStand_26 (by decide) (fun q => absurd q (by decide)) (fun _ => ?_)
  refine g_iload_n dX10_mayStand_29 rfl ?_
  refine g_bipushV (v := 6) dX10_mayStand_30 (by decide) ?_
  refine g_icmp_ge 39 dX10_mayStand_32 (by decide) (fun c1 => ?_) (fun c1 => ?_)
  · refine g_iconstV (v := 0) dX10_mayStand_39 (by decide) ?_
    refine g_zret dX10_mayStand_40 rfl rfl ?_
    rw [if_neg (e7.mp c1)] at k
    exact k
  · refine g_iconstV (v := 1) dX10_mayStand_35 (by decide) ?_
    refine g_goto 40 dX10_mayStand_36 (by decide) ?_
    refine g_zret dX10_mayStand_40 rfl rfl ?_
    rw [if_pos (Classical.byContradiction fun z => c1 (e7.mpr z))] at k
    exact k
set_option maxHeartbeats 4000000 in
set_option maxRecDepth 20000 in
theorem m_may0 {g : GE} {d : Nat} {w : GW} {σ : MW} {Q : Option Value → GW → Prop} (hd : 2 ≤ d) (hS : SK g w) {r : Nat} {bs : List (Nat × Nat × Nat)} (hX : MX σ r bs) (k : Q (some (.int (fMay (fun i => mA σ 0 (40 * r + i)) 0 bs))) (put g σ w)) : gM g d mX10_mayStand [.ref (eB g + 70), .int 0] (put g σ w) Q := by
  refine gM.of (by decide) (Nat.le_of_ble_eq_true rfl) ?_
  obtain ⟨hR, hr4, hD, hL, hK⟩ := id hX
  have e6 : ∀ k, (6 : Int32) * nI r + nI k = nI (6 * r + k) := fun k => by rw [show (6 : Int32) = nI 6 from rfl, pk_mul, nI_add]
  cases bs with
  | nil =>
    refine g_aload_n dX10_mayStand_0 rfl ?_
    refine mg_getA 7 7 dX10_mayStand_1 fX10_31 rfl rt_7 hS ?_
    refine g_aload_n dX10_mayStand_4 rfl ?_
    refine mg_getI 11 dX10_mayStand_5 fX10_104 rfl (by decide) hS ?_
    rw [hR]
    refine mg_iald dX10_mayStand_8 rfl rfl rfl (by omega) hS ?_
    rw [hD]
    refine g_istore_n dX10_mayStand_9 (by decide) rfl ?_
    refine g_bipushV (v := 6) dX10_mayStand_10 (by decide) ?_
    refine g_aload_n dX10_mayStand_12 rfl ?_
    refine mg_getI 11 dX10_mayStand_13 fX10_104 rfl (by decide) hS ?_
    rw [hR]
    refine g_imul dX10_mayStand_16 ?_
    refine g_iload_n dX10_mayStand_17 rfl ?_
    refine g_iadd dX10_mayStand_18 ?_
    rw [e6]
    refine g_iconstV (v := 1) dX10_mayStand_19 (by decide) ?_
    refine g_isub dX10_mayStand_20 ?_
    refine g_istore_n dX10_mayStand_21 (by decide) rfl ?_
    refine g_iload_n dX10_mayStand_22 rfl ?_
    refine g_callS (d1 := d - 1) (As := [_]) dX10_mayStand_23 sX10_118 (by omega) rfl rfl (Nat.le_of_ble_eq_true rfl) ?_
    refine m_isBlock ?_
    refine g_if_eq 41 dX10_mayStand_26 (by decide) (fun _ => ?_) (fun q => absurd (by decide) q)
    refine g_iload_n dX10_mayStand_41 rfl ?_
    refine g_if_ne 55 dX10_mayStand_42 (by decide) (fun q => absurd (rfl) q) (fun _ => ?_)
    refine g_iload_n dX10_mayStand_45 rfl ?_
    refine g_if_le 53 dX10_mayStand_46 (by decide) (fun _ => ?_) (fun q => absurd (by decide) q)
    refine g_iconstV (v := 0) dX10_mayStand_53 (by decide) ?_
    refine g_zret dX10_mayStand_54 rfl rfl ?_
    exact k
  | cons b bs =>
    refine g_aload_n dX10_mayStand_0 rfl ?_
    refine mg_getA 7 7 dX10_mayStand_1 fX10_31 rfl rt_7 hS ?_
    refine g_aload_n dX10_mayStand_4 rfl ?_
    refine mg_getI 11 dX10_mayStand_5 fX10_104 rfl (by decide) hS ?_
    rw [hR]
    refine mg_iald dX10_mayStand_8 rfl rfl rfl (by omega) hS ?_
    rw [hD]
    refine g_istore_n dX10_mayStand_9 (by decide) rfl ?_
    refine g_bipushV (v := 6) dX10_mayStand_10 (by decide) ?_
    refine g_aload_n dX10_mayStand_12 rfl ?_
    refine mg_getI 11 dX10_mayStand_13 fX10_104 rfl (by decide) hS ?_
    rw [hR]
    refine g_imul dX10_mayStand_16 ?_
    refine g_iload_n dX10_mayStand_17 rfl ?_
    refine g_iadd dX10_mayStand_18 ?_
    rw [e6]
    refine g_iconstV (v := 1) dX10_mayStand_19 (by decide) ?_
    refine g_isub dX10_mayStand_20 ?_
    refine g_istore_n dX10_mayStand_21 (by decide) rfl ?_
    refine g_iload_n dX10_mayStand_22 rfl ?_
    refine g_callS (d1 := d - 1) (As := [_]) dX10_mayStand_23 sX10_118 (by omega) rfl rfl (Nat.le_of_ble_eq_true rfl) ?_
    refine m_isBlock ?_
    refine g_if_eq 41 dX10_mayStand_26 (by decide) (fun _ => ?_) (fun q => absurd (by decide) q)
    refine g_iload_n dX10_mayStand_41 rfl ?_
    refine g_if_ne 55 dX10_mayStand_42 (by decide) (fun q => absurd (rfl) q) (fun _ => ?_)
    refine g_iload_n dX10_mayStand_45 rfl ?_
    refine g_if_le 53 dX10_mayStand_46 (by decide) (fun q => absurd q (nI_nle (by rw [List.length_cons]; omega) (by omega))) (fun _ => ?_)
    refine g_iconstV (v := 1) dX10_mayStand_49 (by decide) ?_
    refine g_goto 54 dX10_mayStand_50 (by decide) ?_
    refine g_zret dX10_mayStand_54 rfl rfl ?_
    exact k
set_option maxHeartbeats 4000000 in
set_option maxRecDepth 20000 in
theorem m_may2 {g : GE} {d : Nat} {w : GW} {σ : MW} {Q : Option Value → GW → Prop} (hd : 2 ≤ d) (hS : SK g w) {r : Nat} {bs : List (Nat × Nat × Nat)} (hX : MX σ r bs) (k : Q (some (.int (fMay (fun i => mA σ 0 (40 * r + i)) 2 bs))) (put g σ w)) : gM g d mX10_mayStand [.ref (eB g + 70), .int 2] (put g σ w) Q := by
  refine gM.of (by decide) (Nat.le_of_ble_eq_true rfl) ?_
  obtain ⟨hR, hr4, hD, hL, hK⟩ := id hX
  have e6 : ∀ k, (6 : Int32) * nI r + nI k = nI (6 * r + k) := fun k => by rw [show (6 : Int32) = nI 6 from rfl, pk_mul, nI_add]
  cases bs with
  | nil =>
    refine g_aload_n dX10_mayStand_0 rfl ?_
    refine mg_getA 7 7 dX10_mayStand_1 fX10_31 rfl rt_7 hS ?_
    refine g_aload_n dX10_mayStand_4 rfl ?_
    refine mg_getI 11 dX10_mayStand_5 fX10_104 rfl (by decide) hS ?_
    rw [hR]
    refine mg_iald dX10_mayStand_8 rfl rfl rfl (by omega) hS ?_
    rw [hD]
    refine g_istore_n dX10_mayStand_9 (by decide) rfl ?_
    refine g_bipushV (v := 6) dX10_mayStand_10 (by decide) ?_
    refine g_aload_n dX10_mayStand_12 rfl ?_
    refine mg_getI 11 dX10_mayStand_13 fX10_104 rfl (by decide) hS ?_
    rw [hR]
    refine g_imul dX10_mayStand_16 ?_
    refine g_iload_n dX10_mayStand_17 rfl ?_
    refine g_iadd dX10_mayStand_18 ?_
    rw [e6]
    refine g_iconstV (v := 1) dX10_mayStand_19 (by decide) ?_
    refine g_isub dX10_mayStand_20 ?_
    refine g_istore_n dX10_mayStand_21 (by decide) rfl ?_
    refine g_iload_n dX10_mayStand_22 rfl ?_
    refine g_callS (d1 := d - 1) (As := [_]) dX10_mayStand_23 sX10_118 (by omega) rfl rfl (Nat.le_of_ble_eq_true rfl) ?_
    refine m_isBlock ?_
    refine g_if_eq 41 dX10_mayStand_26 (by decide) (fun _ => ?_) (fun q => absurd (by decide) q)
    refine g_iload_n dX10_mayStand_41 rfl ?_
    refine g_if_ne 55 dX10_mayStand_42 (by decide) (fun _ => ?_) (fun q => absurd q (by decide))
    refine g_iload_n dX10_mayStand_55 rfl ?_
    refine g_iconstV (v := 2) dX10_mayStand_56 (by decide) ?_
    refine g_icmp_eq 65 dX10_mayStand_57 (by decide) (fun _ => ?_) (fun q => absurd (rfl) q)
    refine g_iload_n dX10_mayStand_65 rfl ?_
    refine g_if_eq 95 dX10_mayStand_66 (by decide) (fun _ => ?_) (fun q => absurd (by rw [List.length_nil]; decide) q)
    refine g_iconstV (v := 0) dX10_mayStand_95 (by decide) ?_
    refine g_zret dX10_mayStand_96 rfl rfl ?_
    exact k
  | cons b bs =>
    obtain ⟨o, p, x⟩ := b
    obtain ⟨a1, a2, a3, a4, a5, a6⟩ := hK bs.length (by rw [List.length_cons]; omega)
    rw [nth_top] at a1 a2 a3 a4 a5 a6
    rw [List.length_cons] at hL
    have a6' : x ≤ 3 := a6
    replace k : Q (some (.int (fTk (fun i => mA σ 0 (40 * r + i)) 2 (o, p, x)))) (put g σ w) := k
    unfold fTk at k
    have ed : nI ((o, p, x) :: bs).length - 1 = nI bs.length := by rw [List.length_cons, ← nI_1]; simp
    have et : nI (6 * r + ((o, p, x) :: bs).length) - 1 = nI (6 * r + bs.length) := by rw [List.length_cons, show 6 * r + (bs.length + 1) = 6 * r + bs.length + 1 by omega, ← nI_1]; simp
    have e3 : nI 3 ≤ nI x ↔ ¬ x < 3 := ⟨fun z y => nI_ge y (by decide) z, fun z => nI_le (by omega) (by omega)⟩
    have n0 : ¬ nI ((o, p, x) :: bs).length = 0 := fun z => absurd ((nI_eq (b := 0) (by rw [List.length_cons]; omega) (by decide)).mp z) (by rw [List.length_cons]; omega)
    refine g_aload_n dX10_mayStand_0 rfl ?_
    refine mg_getA 7 7 dX10_mayStand_1 fX10_31 rfl rt_7 hS ?_
    refine g_aload_n dX10_mayStand_4 rfl ?_
    refine mg_getI 11 dX10_mayStand_5 fX10_104 rfl (by decide) hS ?_
    rw [hR]
    refine mg_iald dX10_mayStand_8 rfl rfl rfl (by omega) hS ?_
    rw [hD]
    refine g_istore_n dX10_mayStand_9 (by decide) rfl ?_
    refine g_bipushV (v := 6) dX10_mayStand_10 (by decide) ?_
    refine g_aload_n dX10_mayStand_12 rfl ?_
    refine mg_getI 11 dX10_mayStand_13 fX10_104 rfl (by decide) hS ?_
    rw [hR]
    refine g_imul dX10_mayStand_16 ?_
    refine g_iload_n dX10_mayStand_17 rfl ?_
    refine g_iadd dX10_mayStand_18 ?_
    rw [e6]
    refine g_iconstV (v := 1) dX10_mayStand_19 (by decide) ?_
    refine g_isub dX10_mayStand_20 ?_
    refine g_istore_n dX10_mayStand_21 (by decide) rfl ?_
    refine g_iload_n dX10_mayStand_22 rfl ?_
    refine g_callS (d1 := d - 1) (As := [_]) dX10_mayStand_23 sX10_118 (by omega) rfl rfl (Nat.le_of_ble_eq_true rfl) ?_
    refine m_isBlock ?_
    refine g_if_eq 41 dX10_mayStand_26 (by decide) (fun _ => ?_) (fun q => absurd (by decide) q)
    refine g_iload_n dX10_mayStand_41 rfl ?_
    refine g_if_ne 55 dX10_mayStand_42 (by decide) (fun _ => ?_) (fun q => absurd q (by decide))
    refine g_iload_n dX10_mayStand_55 rfl ?_
    refine g_iconstV (v := 2) dX10_mayStand_56 (by decide) ?_
    refine g_icmp_eq 65 dX10_mayStand_57 (by decide) (fun _ => ?_) (fun q => absurd (rfl) q)
    refine g_iload_n dX10_mayStand_65 rfl ?_
    refine g_if_eq 95 dX10_mayStand_66 (by decide) (fun q => absurd q (n0)) (fun _ => ?_)
    refine g_aload_n dX10_mayStand_69 rfl ?_
    refine mg_getA 0 0 dX10_mayStand_70 fX10_7 rfl rt_0 hS ?_
    refine g_aload_n dX10_mayStand_73 rfl ?_
    refine mg_getA 8 8 dX10_mayStand_74 fX10_34 rfl rt_8 hS ?_
    refine g_iload_n dX10_mayStand_77 rfl ?_
    refine mg_iald (n := 6 * r + bs.length) dX10_mayStand_78 et rfl rfl (by omega) hS ?_
    rw [a1]
    refine mg_iald dX10_mayStand_79 rfl rfl rfl (by omega) hS ?_
    refine g_iconstV (v := 1) dX10_mayStand_80 (by decide) ?_
    refine g_icmp_ne 95 dX10_mayStand_81 (by decide) (fun c1 => ?_) (fun c1 => ?_)
    · refine g_iconstV (v := 0) dX10_mayStand_95 (by decide) ?_
      refine g_zret dX10_mayStand_96 rfl rfl ?_
      rw [if_neg c1] at k
      exact k
    · refine g_aload_n dX10_mayStand_84 rfl ?_
      refine g_iload_n dX10_mayStand_85 rfl ?_
      refine g_iconstV (v := 1) dX10_mayStand_86 (by decide) ?_
      refine g_isub dX10_mayStand_87 ?_
      rw [ed]
      refine g_callV (d1 := d - 1) (As := [_]) 9 dX10_mayStand_88 vX10_114 (by omega) (mg_ob hS) rfl rfl (Nat.le_of_ble_eq_true rfl) ?_
      refine m_partAt hS hX (by rw [List.length_cons]; omega) ?_
      rw [nth_top]
      refine g_iconstV (v := 3) dX10_mayStand_91 (by decide) ?_
      refine g_icmp_ne 97 dX10_mayStand_92 (by decide) (fun c2 => ?_) (fun c2 => ?_)
      · refine g_iload_n dX10_mayStand_97 rfl ?_
        refine g_iconstV (v := 3) dX10_mayStand_98 (by decide) ?_
        refine g_icmp_eq 112 dX10_mayStand_99 (by decide) (fun q => absurd q (by decide)) (fun _ => ?_)
        refine g_aload_n dX10_mayStand_102 rfl ?_
        refine mg_getA 10 10 dX10_mayStand_103 fX10_40 rfl rt_10 hS ?_
        refine g_iload_n dX10_mayStand_106 rfl ?_
        refine mg_iald (n := 6 * r + bs.length) dX10_mayStand_107 et rfl rfl (by omega) hS ?_
        rw [a3]
        refine g_iconstV (v := 3) dX10_mayStand_108 (by decide) ?_
        refine g_icmp_ge 116 dX10_mayStand_109 (by decide) (fun c3 => ?_) (fun c3 => ?_)
        · refine g_iconstV (v := 0) dX10_mayStand_116 (by decide) ?_
          refine g_zret dX10_mayStand_117 rfl rfl ?_
          rw [if_pos c1, if_neg c2, if_pos rfl, if_neg (e3.mp c3)] at k
          exact k
        · refine g_iconstV (v := 1) dX10_mayStand_112 (by decide) ?_
          refine g_goto 117 dX10_mayStand_113 (by decide) ?_
          refine g_zret dX10_mayStand_117 rfl rfl ?_
          rw [if_pos c1, if_neg c2, if_pos rfl, if_pos (Classical.byContradiction fun z => c3 (e3.mpr z))] at k
          exact k
      · refine g_iconstV (v := 0) dX10_mayStand_95 (by decide) ?_
        refine g_zret dX10_mayStand_96 rfl rfl ?_
        rw [if_pos c1, if_pos c2] at k
        exact k
set_option maxHeartbeats 4000000 in
set_option maxRecDepth 20000 in
theorem m_may3 {g : GE} {d : Nat} {w : GW} {σ : MW} {Q : Option Value → GW → Prop} (hd : 2 ≤ d) (hS : SK g w) {r : Nat} {bs : List (Nat × Nat × Nat)} (hX : MX σ r bs) (k : Q (some (.int (fMay (fun i => mA σ 0 (40 * r + i)) 3 bs))) (put g σ w)) : gM g d mX10_mayStand [.ref (eB g + 70), .int 3] (put g σ w) Q := by
  refine gM.of (by decide) (Nat.le_of_ble_eq_true rfl) ?_
  obtain ⟨hR, hr4, hD, hL, hK⟩ := id hX
  have e6 : ∀ k, (6 : Int32) * nI r + nI k = nI (6 * r + k) := fun k => by rw [show (6 : Int32) = nI 6 from rfl, pk_mul, nI_add]
  cases bs with
  | nil =>
    refine g_aload_n dX10_mayStand_0 rfl ?_
    refine mg_getA 7 7 dX10_mayStand_1 fX10_31 rfl rt_7 hS ?_
    refine g_aload_n dX10_mayStand_4 rfl ?_
    refine mg_getI 11 dX10_mayStand_5 fX10_104 rfl (by decide) hS ?_
    rw [hR]
    refine mg_iald dX10_mayStand_8 rfl rfl rfl (by omega) hS ?_
    rw [hD]
    refine g_istore_n dX10_mayStand_9 (by decide) rfl ?_
    refine g_bipushV (v := 6) dX10_mayStand_10 (by decide) ?_
    refine g_aload_n dX10_mayStand_12 rfl ?_
    refine mg_getI 11 dX10_mayStand_13 fX10_104 rfl (by decide) hS ?_
    rw [hR]
    refine g_imul dX10_mayStand_16 ?_
    refine g_iload_n dX10_mayStand_17 rfl ?_
    refine g_iadd dX10_mayStand_18 ?_
    rw [e6]
    refine g_iconstV (v := 1) dX10_mayStand_19 (by decide) ?_
    refine g_isub dX10_mayStand_20 ?_
    refine g_istore_n dX10_mayStand_21 (by decide) rfl ?_
    refine g_iload_n dX10_mayStand_22 rfl ?_
    refine g_callS (d1 := d - 1) (As := [_]) dX10_mayStand_23 sX10_118 (by omega) rfl rfl (Nat.le_of_ble_eq_true rfl) ?_
    refine m_isBlock ?_
    refine g_if_eq 41 dX10_mayStand_26 (by decide) (fun _ => ?_) (fun q => absurd (by decide) q)
    refine g_iload_n dX10_mayStand_41 rfl ?_
    refine g_if_ne 55 dX10_mayStand_42 (by decide) (fun _ => ?_) (fun q => absurd q (by decide))
    refine g_iload_n dX10_mayStand_55 rfl ?_
    refine g_iconstV (v := 2) dX10_mayStand_56 (by decide) ?_
    refine g_icmp_eq 65 dX10_mayStand_57 (by decide) (fun q => absurd q (by decide)) (fun _ => ?_)
    refine g_iload_n dX10_mayStand_60 rfl ?_
    refine g_iconstV (v := 3) dX10_mayStand_61 (by decide) ?_
    refine g_icmp_ne 118 dX10_mayStand_62 (by decide) (fun q => absurd (rfl) q) (fun _ => ?_)
    refine g_iload_n dX10_mayStand_65 rfl ?_
    refine g_if_eq 95 dX10_mayStand_66 (by decide) (fun _ => ?_) (fun q => absurd (by rw [List.length_nil]; decide) q)
    refine g_iconstV (v := 0) dX10_mayStand_95 (by decide) ?_
    refine g_zret dX10_mayStand_96 rfl rfl ?_
    exact k
  | cons b bs =>
    obtain ⟨o, p, x⟩ := b
    obtain ⟨a1, a2, a3, a4, a5, a6⟩ := hK bs.length (by rw [List.length_cons]; omega)
    rw [nth_top] at a1 a2 a3 a4 a5 a6
    rw [List.length_cons] at hL
    have a6' : x ≤ 3 := a6
    replace k : Q (some (.int (fTk (fun i => mA σ 0 (40 * r + i)) 3 (o, p, x)))) (put g σ w) := k
    unfold fTk at k
    have ed : nI ((o, p, x) :: bs).length - 1 = nI bs.length := by rw [List.length_cons, ← nI_1]; simp
    have et : nI (6 * r + ((o, p, x) :: bs).length) - 1 = nI (6 * r + bs.length) := by rw [List.length_cons, show 6 * r + (bs.length + 1) = 6 * r + bs.length + 1 by omega, ← nI_1]; simp
    have e3 : nI 3 ≤ nI x ↔ ¬ x < 3 := ⟨fun z y => nI_ge y (by decide) z, fun z => nI_le (by omega) (by omega)⟩
    have n0 : ¬ nI ((o, p, x) :: bs).length = 0 := fun z => absurd ((nI_eq (b := 0) (by rw [List.length_cons]; omega) (by decide)).mp z) (by rw [List.length_cons]; omega)
    refine g_aload_n dX10_mayStand_0 rfl ?_
    refine mg_getA 7 7 dX10_mayStand_1 fX10_31 rfl rt_7 hS ?_
    refine g_aload_n dX10_mayStand_4 rfl ?_
    refine mg_getI 11 dX10_mayStand_5 fX10_104 rfl (by decide) hS ?_
    rw [hR]
    refine mg_iald dX10_mayStand_8 rfl rfl rfl (by omega) hS ?_
    rw [hD]
    refine g_istore_n dX10_mayStand_9 (by decide) rfl ?_
    refine g_bipushV (v := 6) dX10_mayStand_10 (by decide) ?_
    refine g_aload_n dX10_mayStand_12 rfl ?_
    refine mg_getI 11 dX10_mayStand_13 fX10_104 rfl (by decide) hS ?_
    rw [hR]
    refine g_imul dX10_mayStand_16 ?_
    refine g_iload_n dX10_mayStand_17 rfl ?_
    refine g_iadd dX10_mayStand_18 ?_
    rw [e6]
    refine g_iconstV (v := 1) dX10_mayStand_19 (by decide) ?_
    refine g_isub dX10_mayStand_20 ?_
    refine g_istore_n dX10_mayStand_21 (by decide) rfl ?_
    refine g_iload_n dX10_mayStand_22 rfl ?_
    refine g_callS (d1 := d - 1) (As := [_]) dX10_mayStand_23 sX10_118 (by omega) rfl rfl (Nat.le_of_ble_eq_true rfl) ?_
    refine m_isBlock ?_
    refine g_if_eq 41 dX10_mayStand_26 (by decide) (fun _ => ?_) (fun q => absurd (by decide) q)
    refine g_iload_n dX10_mayStand_41 rfl ?_
    refine g_if_ne 55 dX10_mayStand_42 (by decide) (fun _ => ?_) (fun q => absurd q (by decide))
    refine g_iload_n dX10_mayStand_55 rfl ?_
    refine g_iconstV (v := 2) dX10_mayStand_56 (by decide) ?_
    refine g_icmp_eq 65 dX10_mayStand_57 (by decide) (fun q => absurd q (by decide)) (fun _ => ?_)
    refine g_iload_n dX10_mayStand_60 rfl ?_
    refine g_iconstV (v := 3) dX10_mayStand_61 (by decide) ?_
    refine g_icmp_ne 118 dX10_mayStand_62 (by decide) (fun q => absurd (rfl) q) (fun _ => ?_)
    refine g_iload_n dX10_mayStand_65 rfl ?_
    refine g_if_eq 95 dX10_mayStand_66 (by decide) (fun q => absurd q (n0)) (fun _ => ?_)
    refine g_aload_n dX10_mayStand_69 rfl ?_
    refine mg_getA 0 0 dX10_mayStand_70 fX10_7 rfl rt_0 hS ?_
    refine g_aload_n dX10_mayStand_73 rfl ?_
    refine mg_getA 8 8 dX10_mayStand_74 fX10_34 rfl rt_8 hS ?_
    refine g_iload_n dX10_mayStand_77 rfl ?_
    refine mg_iald (n := 6 * r + bs.length) dX10_mayStand_78 et rfl rfl (by omega) hS ?_
    rw [a1]
    refine mg_iald dX10_mayStand_79 rfl rfl rfl (by omega) hS ?_
    refine g_iconstV (v := 1) dX10_mayStand_80 (by decide) ?_
    refine g_icmp_ne 95 dX10_mayStand_81 (by decide) (fun c1 => ?_) (fun c1 => ?_)
    · refine g_iconstV (v := 0) dX10_mayStand_95 (by decide) ?_
      refine g_zret dX10_mayStand_96 rfl rfl ?_
      rw [if_neg c1] at k
      exact k
    · refine g_aload_n dX10_mayStand_84 rfl ?_
      refine g_iload_n dX10_mayStand_85 rfl ?_
      refine g_iconstV (v := 1) dX10_mayStand_86 (by decide) ?_
      refine g_isub dX10_mayStand_87 ?_
      rw [ed]
      refine g_callV (d1 := d - 1) (As := [_]) 9 dX10_mayStand_88 vX10_114 (by omega) (mg_ob hS) rfl rfl (Nat.le_of_ble_eq_true rfl) ?_
      refine m_partAt hS hX (by rw [List.length_cons]; omega) ?_
      rw [nth_top]
      refine g_iconstV (v := 3) dX10_mayStand_91 (by decide) ?_
      refine g_icmp_ne 97 dX10_mayStand_92 (by decide) (fun c2 => ?_) (fun c2 => ?_)
      · refine g_iload_n dX10_mayStand_97 rfl ?_
        refine g_iconstV (v := 3) dX10_mayStand_98 (by decide) ?_
        refine g_icmp_eq 112 dX10_mayStand_99 (by decide) (fun _ => ?_) (fun q => absurd (rfl) q)
        refine g_iconstV (v := 1) dX10_mayStand_112 (by decide) ?_
        refine g_goto 117 dX10_mayStand_113 (by decide) ?_
        refine g_zret dX10_mayStand_117 rfl rfl ?_
        rw [if_pos c1, if_neg c2, if_neg (by decide)] at k
        exact k
      · refine g_iconstV (v := 0) dX10_mayStand_95 (by decide) ?_
        refine g_zret dX10_mayStand_96 rfl rfl ?_
        rw [if_pos c1, if_pos c2] at k
        exact k
set_option maxHeartbeats 4000000 in
set_option maxRecDepth 20000 in
theorem m_leave_loop {g : GE} {d : Nat} {w : GW} {σ : MW} {Q : Option Value → GW → Prop} (hS : SK g w) {r : Nat} {bs : List (Nat × Nat × Nat)} (hX : MX σ r bs) {tp v : Int32} (K : ∀ lp : Int32, ((lp = -1 ∧ ∀ j, j < bs.length → ¬ mA σ 0 (40 * r + (nth bs j).1) = 4) ∨ (∃ k0 : Nat, k0 < bs.length ∧ lp = nI k0 ∧ mA σ 0 (40 * r + (nth bs k0).1) = 4 ∧ ∀ j, k0 < j → j < bs.length → ¬ mA σ 0 (40 * r + (nth bs j).1) = 4)) → gF g d mX10_mayStand 174 [(5, .int (nI bs.length)), (4, .int lp), (3, .int tp), (2, .int (nI bs.length)), (0, .ref (eB g + 70)), (1, .int v)] [] (put g σ w) Q) : ∀ (m i : Nat) (lp : Int32), i + m = bs.length → ((lp = -1 ∧ ∀ j, j < i → ¬ mA σ 0 (40 * r + (nth bs j).1) = 4) ∨ (∃ k0 : Nat, k0 < i ∧ lp = nI k0 ∧ mA σ 0 (40 * r + (nth bs k0).1) = 4 ∧ ∀ j, k0 < j → j < i → ¬ mA σ 0 (40 * r + (nth bs j).1) = 4)) → gF g d mX10_mayStand 129 [(5, .int (nI i)), (4, .int lp), (3, .int tp), (2, .int (nI bs.length)), (0, .ref (eB g + 70)), (1, .int v)] [] (put g σ w) Q
  | 0, i, lp, hi, hz => by
    obtain ⟨hR, hr4, hD, hL, hK⟩ := id hX
    have e : i = bs.length := by omega
    subst e
    refine g_iload dX10_mayStand_129 rfl ?_
    refine g_iload_n dX10_mayStand_131 rfl ?_
    refine g_icmp_ge 174 dX10_mayStand_132 (by decide) (fun _ => ?_) (fun q => absurd (nI_le (Nat.le_refl _) (by omega)) q)
    exact K lp hz
  | m + 1, i, lp, hi, hz => by
    obtain ⟨hR, hr4, hD, hL, hK⟩ := id hX
    obtain ⟨a1, a2, a3, a4, a5, a6⟩ := hK i (by omega)
    have e6 : (6 : Int32) * nI r + nI i = nI (6 * r + i) := by rw [show (6 : Int32) = nI 6 from rfl, pk_mul, nI_add]
    refine g_iload dX10_mayStand_129 rfl ?_
    refine g_iload_n dX10_mayStand_131 rfl ?_
    refine g_icmp_ge 174 dX10_mayStand_132 (by decide) (fun q => absurd q (nI_ge (by omega) (by omega))) (fun _ => ?_)
    refine g_aload_n dX10_mayStand_135 rfl ?_
    refine mg_getA 0 0 dX10_mayStand_136 fX10_7 rfl rt_0 hS ?_
    refine g_aload_n dX10_mayStand_139 rfl ?_
    refine mg_getA 8 8 dX10_mayStand_140 fX10_34 rfl rt_8 hS ?_
    refine g_bipushV (v := 6) dX10_mayStand_143 (by decide) ?_
    refine g_aload_n dX10_mayStand_145 rfl ?_
    refine mg_getI 11 dX10_mayStand_146 fX10_104 rfl (by decide) hS ?_
    rw [hR]
    refine g_imul dX10_mayStand_149 ?_
    refine g_iload dX10_mayStand_150 rfl ?_
    refine g_iadd dX10_mayStand_152 ?_
    rw [e6]
    refine mg_iald dX10_mayStand_153 rfl rfl rfl (by omega) hS ?_
    rw [a1]
    refine mg_iald dX10_mayStand_154 rfl rfl rfl (by omega) hS ?_
    refine g_iconstV (v := 4) dX10_mayStand_155 (by decide) ?_
    refine g_icmp_ne 164 dX10_mayStand_156 (by decide) (fun c1 => ?_) (fun c1 => ?_)
    · refine g_iload dX10_mayStand_164 rfl ?_
      refine g_istore dX10_mayStand_166 (by decide) rfl ?_
      refine g_iinc (lz := [(5, .int (nI (i + 1))), (4, .int lp), (3, .int tp), (2, .int (nI bs.length)), (0, .ref (eB g + 70)), (1, .int v)]) dX10_mayStand_168 rfl (by decide) (by rw [show nI i + Int32.ofInt 1 = nI (i + 1) from nI_1 i]; rfl) ?_
      refine g_goto 129 dX10_mayStand_171 (by decide) ?_
      refine m_leave_loop hS hX K m (i + 1) lp (by omega) ?_
      rcases hz with ⟨z1, z2⟩ | ⟨k0, z1, z2, z3, z4⟩
      · exact Or.inl ⟨z1, fun j hj => by
          by_cases e : j = i
          · subst e; exact c1
          · exact z2 j (by omega)⟩
      · exact Or.inr ⟨k0, by omega, z2, z3, fun j y1 y2 => by
          by_cases e : j = i
          · subst e; exact c1
          · exact z4 j y1 (by omega)⟩
    · refine g_iload dX10_mayStand_159 rfl ?_
      refine g_goto 166 dX10_mayStand_161 (by decide) ?_
      refine g_istore dX10_mayStand_166 (by decide) rfl ?_
      refine g_iinc (lz := [(5, .int (nI (i + 1))), (4, .int (nI i)), (3, .int tp), (2, .int (nI bs.length)), (0, .ref (eB g + 70)), (1, .int v)]) dX10_mayStand_168 rfl (by decide) (by rw [show nI i + Int32.ofInt 1 = nI (i + 1) from nI_1 i]; rfl) ?_
      refine g_goto 129 dX10_mayStand_171 (by decide) ?_
      exact m_leave_loop hS hX K m (i + 1) (nI i) (by omega) (Or.inr ⟨i, by omega, rfl, c1, fun j y1 y2 => absurd y1 (by omega)⟩)
set_option maxHeartbeats 4000000 in
set_option maxRecDepth 20000 in
theorem m_may5 {g : GE} {d : Nat} {w : GW} {σ : MW} {Q : Option Value → GW → Prop} (hd : 2 ≤ d) (hS : SK g w) {r : Nat} {bs : List (Nat × Nat × Nat)} (hX : MX σ r bs) (hLp : ∀ j, j < bs.length → mA σ 0 (40 * r + (nth bs j).1) = 4 → ¬ mA σ 0 (40 * r + (nth bs j).2.1) = 3) (k : Q (some (.int (fMay (fun i => mA σ 0 (40 * r + i)) 5 bs))) (put g σ w)) : gM g d mX10_mayStand [.ref (eB g + 70), .int 5] (put g σ w) Q := by
  refine gM.of (by decide) (Nat.le_of_ble_eq_true rfl) ?_
  obtain ⟨hR, hr4, hD, hL, hK⟩ := id hX
  have e6 : ∀ k, (6 : Int32) * nI r + nI k = nI (6 * r + k) := fun k => by rw [show (6 : Int32) = nI 6 from rfl, pk_mul, nI_add]
  replace k : Q (some (.int (fLv (fun i => mA σ 0 (40 * r + i)) bs))) (put g σ w) := k
  refine g_aload_n dX10_mayStand_0 rfl ?_
  refine mg_getA 7 7 dX10_mayStand_1 fX10_31 rfl rt_7 hS ?_
  refine g_aload_n dX10_mayStand_4 rfl ?_
  refine mg_getI 11 dX10_mayStand_5 fX10_104 rfl (by decide) hS ?_
  rw [hR]
  refine mg_iald dX10_mayStand_8 rfl rfl rfl (by omega) hS ?_
  rw [hD]
  refine g_istore_n dX10_mayStand_9 (by decide) rfl ?_
  refine g_bipushV (v := 6) dX10_mayStand_10 (by decide) ?_
  refine g_aload_n dX10_mayStand_12 rfl ?_
  refine mg_getI 11 dX10_mayStand_13 fX10_104 rfl (by decide) hS ?_
  rw [hR]
  refine g_imul dX10_mayStand_16 ?_
  refine g_iload_n dX10_mayStand_17 rfl ?_
  refine g_iadd dX10_mayStand_18 ?_
  rw [e6]
  refine g_iconstV (v := 1) dX10_mayStand_19 (by decide) ?_
  refine g_isub dX10_mayStand_20 ?_
  refine g_istore_n dX10_mayStand_21 (by decide) rfl ?_
  refine g_iload_n dX10_mayStand_22 rfl ?_
  refine g_callS (d1 := d - 1) (As := [_]) dX10_mayStand_23 sX10_118 (by omega) rfl rfl (Nat.le_of_ble_eq_true rfl) ?_
  refine m_isBlock ?_
  refine g_if_eq 41 dX10_mayStand_26 (by decide) (fun _ => ?_) (fun q => absurd (by decide) q)
  refine g_iload_n dX10_mayStand_41 rfl ?_
  refine g_if_ne 55 dX10_mayStand_42 (by decide) (fun _ => ?_) (fun q => absurd q (by decide))
  refine g_iload_n dX10_mayStand_55 rfl ?_
  refine g_iconstV (v := 2) dX10_mayStand_56 (by decide) ?_
  refine g_icmp_eq 65 dX10_mayStand_57 (by decide) (fun q => absurd q (by decide)) (fun _ => ?_)
  refine g_iload_n dX10_mayStand_60 rfl ?_
  refine g_iconstV (v := 3) dX10_mayStand_61 (by decide) ?_
  refine g_icmp_ne 118 dX10_mayStand_62 (by decide) (fun _ => ?_) (fun q => absurd q (by decide))
  refine g_iload_n dX10_mayStand_118 rfl ?_
  refine g_iconstV (v := 5) dX10_mayStand_119 (by decide) ?_
  refine g_icmp_ne 195 dX10_mayStand_120 (by decide) (fun q => absurd (rfl) q) (fun _ => ?_)
  refine g_iconstV (v := -1) dX10_mayStand_123 (by decide) ?_
  refine g_istore dX10_mayStand_124 (by decide) rfl ?_
  refine g_iconstV (v := 0) dX10_mayStand_126 (by decide) ?_
  refine g_istore dX10_mayStand_127 (by decide) rfl ?_
  refine m_leave_loop hS hX (fun lp hz => ?_) bs.length 0 (-1) (by omega) (Or.inl ⟨rfl, fun j hj => absurd hj (Nat.not_lt_zero _)⟩)
  refine g_iload dX10_mayStand_174 rfl ?_
  rcases hz with ⟨rfl, z2⟩ | ⟨k0, z1, rfl, z3, z4⟩
  · refine g_if_lt 193 dX10_mayStand_176 (by decide) (fun _ => ?_) (fun q => absurd (by decide) q)
    refine g_iconstV (v := 0) dX10_mayStand_193 (by decide) ?_
    refine g_zret dX10_mayStand_194 rfl rfl ?_
    rw [fLv_no z2] at k
    exact k
  · refine g_if_lt 193 dX10_mayStand_176 (by decide) (fun q => absurd q (nI_pos (by omega))) (fun _ => ?_)
    refine g_aload_n dX10_mayStand_179 rfl ?_
    refine g_iconstV (v := 3) dX10_mayStand_180 (by decide) ?_
    refine g_iload dX10_mayStand_181 rfl ?_
    refine g_callV (d1 := d - 1) (As := [_, _]) 9 dX10_mayStand_183 vX10_121 (by omega) (mg_ob hS) rfl rfl (Nat.le_of_ble_eq_true rfl) ?_
    refine m_isPartOpen (by omega) hS hX (Nat.le_of_lt z1) (fun res hres => ?_)
    rcases hres with ⟨rfl, y⟩ | ⟨rfl, j, y1, y2, y3⟩
    · refine g_if_ne 193 dX10_mayStand_186 (by decide) (fun q => absurd rfl q) (fun _ => ?_)
      refine g_iconstV (v := 1) dX10_mayStand_189 (by decide) ?_
      refine g_goto 194 dX10_mayStand_190 (by decide) ?_
      refine g_zret dX10_mayStand_194 rfl rfl ?_
      rw [fLv_yes z1 z3 y] at k
      exact k
    · refine g_if_ne 193 dX10_mayStand_186 (by decide) (fun _ => ?_) (fun q => absurd q (by decide))
      refine g_iconstV (v := 0) dX10_mayStand_193 (by decide) ?_
      refine g_zret dX10_mayStand_194 rfl rfl ?_
      have hjk : k0 < j := by
        rcases Nat.lt_or_ge k0 j with q | q
        · exact q
        · have e : j = k0 := by omega
          subst e; exact absurd y3 (hLp j y2 z3)
      rw [fLv_fin z4 hjk y2 y3] at k
      exact k
set_option maxHeartbeats 4000000 in
set_option maxRecDepth 20000 in
theorem m_may6 {g : GE} {d : Nat} {w : GW} {σ : MW} {Q : Option Value → GW → Prop} (hd : 2 ≤ d) (hS : SK g w) {r : Nat} {bs : List (Nat × Nat × Nat)} (hX : MX σ r bs) (k : Q (some (.int (fMay (fun i => mA σ 0 (40 * r + i)) 6 bs))) (put g σ w)) : gM g d mX10_mayStand [.ref (eB g + 70), .int 6] (put g σ w) Q := by
  refine gM.of (by decide) (Nat.le_of_ble_eq_true rfl) ?_
  obtain ⟨hR, hr4, hD, hL, hK⟩ := id hX
  have e6 : ∀ k, (6 : Int32) * nI r + nI k = nI (6 * r + k) := fun k => by rw [show (6 : Int32) = nI 6 from rfl, pk_mul, nI_add]
  replace k : Q (some (.int (if fPO (fun i => mA σ 0 (40 * r + i)) 3 bs = 0 then 1 else 0))) (put g σ w) := k
  refine g_aload_n dX10_mayStand_0 rfl ?_
  refine mg_getA 7 7 dX10_mayStand_1 fX10_31 rfl rt_7 hS ?_
  refine g_aload_n dX10_mayStand_4 rfl ?_
  refine mg_getI 11 dX10_mayStand_5 fX10_104 rfl (by decide) hS ?_
  rw [hR]
  refine mg_iald dX10_mayStand_8 rfl rfl rfl (by omega) hS ?_
  rw [hD]
  refine g_istore_n dX10_mayStand_9 (by decide) rfl ?_
  refine g_bipushV (v := 6) dX10_mayStand_10 (by decide) ?_
  refine g_aload_n dX10_mayStand_12 rfl ?_
  refine mg_getI 11 dX10_mayStand_13 fX10_104 rfl (by decide) hS ?_
  rw [hR]
  refine g_imul dX10_mayStand_16 ?_
  refine g_iload_n dX10_mayStand_17 rfl ?_
  refine g_iadd dX10_mayStand_18 ?_
  rw [e6]
  refine g_iconstV (v := 1) dX10_mayStand_19 (by decide) ?_
  refine g_isub dX10_mayStand_20 ?_
  refine g_istore_n dX10_mayStand_21 (by decide) rfl ?_
  refine g_iload_n dX10_mayStand_22 rfl ?_
  refine g_callS (d1 := d - 1) (As := [_]) dX10_mayStand_23 sX10_118 (by omega) rfl rfl (Nat.le_of_ble_eq_true rfl) ?_
  refine m_isBlock ?_
  refine g_if_eq 41 dX10_mayStand_26 (by decide) (fun _ => ?_) (fun q => absurd (by decide) q)
  refine g_iload_n dX10_mayStand_41 rfl ?_
  refine g_if_ne 55 dX10_mayStand_42 (by decide) (fun _ => ?_) (fun q => absurd q (by decide))
  refine g_iload_n dX10_mayStand_55 rfl ?_
  refine g_iconstV (v := 2) dX10_mayStand_56 (by decide) ?_
  refine g_icmp_eq 65 dX10_mayStand_57 (by decide) (fun q => absurd q (by decide)) (fun _ => ?_)
  refine g_iload_n dX10_mayStand_60 rfl ?_
  refine g_iconstV (v := 3) dX10_mayStand_61 (by decide) ?_
  refine g_icmp_ne 118 dX10_mayStand_62 (by decide) (fun _ => ?_) (fun q => absurd q (by decide))
  refine g_iload_n dX10_mayStand_118 rfl ?_
  refine g_iconstV (v := 5) dX10_mayStand_119 (by decide) ?_
  refine g_icmp_ne 195 dX10_mayStand_120 (by decide) (fun _ => ?_) (fun q => absurd q (by decide))
  refine g_iload_n dX10_mayStand_195 rfl ?_
  refine g_bipushV (v := 6) dX10_mayStand_196 (by decide) ?_
  refine g_icmp_ne 216 dX10_mayStand_198 (by decide) (fun q => absurd (rfl) q) (fun _ => ?_)
  refine g_aload_n dX10_mayStand_201 rfl ?_
  refine g_iconstV (v := 3) dX10_mayStand_202 (by decide) ?_
  refine g_iconstV (v := 0) dX10_mayStand_203 (by decide) ?_
  refine g_callV (d1 := d - 1) (As := [_, _]) 9 dX10_mayStand_204 vX10_121 (by omega) (mg_ob hS) rfl rfl (Nat.le_of_ble_eq_true rfl) ?_
  refine m_isPartOpen (f := 0) (by omega) hS hX (Nat.zero_le _) (fun res hres => ?_)
  rcases hres with ⟨rfl, y⟩ | ⟨rfl, j, y1, y2, y3⟩
  · refine g_if_ne 214 dX10_mayStand_207 (by decide) (fun q => absurd rfl q) (fun _ => ?_)
    refine g_iconstV (v := 1) dX10_mayStand_210 (by decide) ?_
    refine g_goto 215 dX10_mayStand_211 (by decide) ?_
    refine g_zret dX10_mayStand_215 rfl rfl ?_
    rw [if_pos (fPO_no (fun j hj => y j (Nat.zero_le _) hj))] at k
    exact k
  · refine g_if_ne 214 dX10_mayStand_207 (by decide) (fun _ => ?_) (fun q => absurd q (by decide))
    refine g_iconstV (v := 0) dX10_mayStand_214 (by decide) ?_
    refine g_zret dX10_mayStand_215 rfl rfl ?_
    rw [if_neg (by rw [fPO_yes y2 y3]; decide)] at k
    exact k
set_option maxHeartbeats 4000000 in
set_option maxRecDepth 20000 in
theorem m_may8 {g : GE} {d : Nat} {w : GW} {σ : MW} {Q : Option Value → GW → Prop} (hd : 2 ≤ d) (hS : SK g w) {r : Nat} {bs : List (Nat × Nat × Nat)} (hX : MX σ r bs) (k : Q (some (.int (fMay (fun i => mA σ 0 (40 * r + i)) 8 bs))) (put g σ w)) : gM g d mX10_mayStand [.ref (eB g + 70), .int 8] (put g σ w) Q := by
  refine gM.of (by decide) (Nat.le_of_ble_eq_true rfl) ?_
  obtain ⟨hR, hr4, hD, hL, hK⟩ := id hX
  have e6 : ∀ k, (6 : Int32) * nI r + nI k = nI (6 * r + k) := fun k => by rw [show (6 : Int32) = nI 6 from rfl, pk_mul, nI_add]
  replace k : Q (some (.int (fPO (fun i => mA σ 0 (40 * r + i)) 2 bs))) (put g σ w) := k
  refine g_aload_n dX10_mayStand_0 rfl ?_
  refine mg_getA 7 7 dX10_mayStand_1 fX10_31 rfl rt_7 hS ?_
  refine g_aload_n dX10_mayStand_4 rfl ?_
  refine mg_getI 11 dX10_mayStand_5 fX10_104 rfl (by decide) hS ?_
  rw [hR]
  refine mg_iald dX10_mayStand_8 rfl rfl rfl (by omega) hS ?_
  rw [hD]
  refine g_istore_n dX10_mayStand_9 (by decide) rfl ?_
  refine g_bipushV (v := 6) dX10_mayStand_10 (by decide) ?_
  refine g_aload_n dX10_mayStand_12 rfl ?_
  refine mg_getI 11 dX10_mayStand_13 fX10_104 rfl (by decide) hS ?_
  rw [hR]
  refine g_imul dX10_mayStand_16 ?_
  refine g_iload_n dX10_mayStand_17 rfl ?_
  refine g_iadd dX10_mayStand_18 ?_
  rw [e6]
  refine g_iconstV (v := 1) dX10_mayStand_19 (by decide) ?_
  refine g_isub dX10_mayStand_20 ?_
  refine g_istore_n dX10_mayStand_21 (by decide) rfl ?_
  refine g_iload_n dX10_mayStand_22 rfl ?_
  refine g_callS (d1 := d - 1) (As := [_]) dX10_mayStand_23 sX10_118 (by omega) rfl rfl (Nat.le_of_ble_eq_true rfl) ?_
  refine m_isBlock ?_
  refine g_if_eq 41 dX10_mayStand_26 (by decide) (fun _ => ?_) (fun q => absurd (by decide) q)
  refine g_iload_n dX10_mayStand_41 rfl ?_
  refine g_if_ne 55 dX10_mayStand_42 (by decide) (fun _ => ?_) (fun q => absurd q (by decide))
  refine g_iload_n dX10_mayStand_55 rfl ?_
  refine g_iconstV (v := 2) dX10_mayStand_56 (by decide) ?_
  refine g_icmp_eq 65 dX10_mayStand_57 (by decide) (fun q => absurd q (by decide)) (fun _ => ?_)
  refine g_iload_n dX10_mayStand_60 rfl ?_
  refine g_iconstV (v := 3) dX10_mayStand_61 (by decide) ?_
  refine g_icmp_ne 118 dX10_mayStand_62 (by decide) (fun _ => ?_) (fun q => absurd q (by decide))
  refine g_iload_n dX10_mayStand_118 rfl ?_
  refine g_iconstV (v := 5) dX10_mayStand_119 (by decide) ?_
  refine g_icmp_ne 195 dX10_mayStand_120 (by decide) (fun _ => ?_) (fun q => absurd q (by decide))
  refine g_iload_n dX10_mayStand_195 rfl ?_
  refine g_bipushV (v := 6) dX10_mayStand_196 (by decide) ?_
  refine g_icmp_ne 216 dX10_mayStand_198 (by decide) (fun _ => ?_) (fun q => absurd q (by decide))
  refine g_iload_n dX10_mayStand_216 rfl ?_
  refine g_bipushV (v := 8) dX10_mayStand_217 (by decide) ?_
  refine g_icmp_eq 234 dX10_mayStand_219 (by decide) (fun _ => ?_) (fun q => absurd (rfl) q)
  refine g_aload_n dX10_mayStand_234 rfl ?_
  refine g_iconstV (v := 2) dX10_mayStand_235 (by decide) ?_
  refine g_iconstV (v := 0) dX10_mayStand_236 (by decide) ?_
  refine g_callV (d1 := d - 1) (As := [_, _]) 9 dX10_mayStand_237 vX10_121 (by omega) (mg_ob hS) rfl rfl (Nat.le_of_ble_eq_true rfl) ?_
  refine m_isPartOpen (f := 0) (by omega) hS hX (Nat.zero_le _) (fun res hres => ?_)
  rcases hres with ⟨rfl, y⟩ | ⟨rfl, j, y1, y2, y3⟩
  · refine g_if_eq 247 dX10_mayStand_240 (by decide) (fun _ => ?_) (fun q => absurd rfl q)
    refine g_iconstV (v := 0) dX10_mayStand_247 (by decide) ?_
    refine g_zret dX10_mayStand_248 rfl rfl ?_
    rw [fPO_no (fun j hj => y j (Nat.zero_le _) hj)] at k
    exact k
  · refine g_if_eq 247 dX10_mayStand_240 (by decide) (fun q => absurd q (by decide)) (fun _ => ?_)
    refine g_iconstV (v := 1) dX10_mayStand_243 (by decide) ?_
    refine g_goto 248 dX10_mayStand_244 (by decide) ?_
    refine g_zret dX10_mayStand_248 rfl rfl ?_
    rw [fPO_yes y2 y3] at k
    exact k
set_option maxHeartbeats 4000000 in
set_option maxRecDepth 20000 in
theorem m_may9 {g : GE} {d : Nat} {w : GW} {σ : MW} {Q : Option Value → GW → Prop} (hd : 2 ≤ d) (hS : SK g w) {r : Nat} {bs : List (Nat × Nat × Nat)} (hX : MX σ r bs) (k : Q (some (.int (fMay (fun i => mA σ 0 (40 * r + i)) 9 bs))) (put g σ w)) : gM g d mX10_mayStand [.ref (eB g + 70), .int 9] (put g σ w) Q := by
  refine gM.of (by decide) (Nat.le_of_ble_eq_true rfl) ?_
  obtain ⟨hR, hr4, hD, hL, hK⟩ := id hX
  have e6 : ∀ k, (6 : Int32) * nI r + nI k = nI (6 * r + k) := fun k => by rw [show (6 : Int32) = nI 6 from rfl, pk_mul, nI_add]
  replace k : Q (some (.int (fPO (fun i => mA σ 0 (40 * r + i)) 2 bs))) (put g σ w) := k
  refine g_aload_n dX10_mayStand_0 rfl ?_
  refine mg_getA 7 7 dX10_mayStand_1 fX10_31 rfl rt_7 hS ?_
  refine g_aload_n dX10_mayStand_4 rfl ?_
  refine mg_getI 11 dX10_mayStand_5 fX10_104 rfl (by decide) hS ?_
  rw [hR]
  refine mg_iald dX10_mayStand_8 rfl rfl rfl (by omega) hS ?_
  rw [hD]
  refine g_istore_n dX10_mayStand_9 (by decide) rfl ?_
  refine g_bipushV (v := 6) dX10_mayStand_10 (by decide) ?_
  refine g_aload_n dX10_mayStand_12 rfl ?_
  refine mg_getI 11 dX10_mayStand_13 fX10_104 rfl (by decide) hS ?_
  rw [hR]
  refine g_imul dX10_mayStand_16 ?_
  refine g_iload_n dX10_mayStand_17 rfl ?_
  refine g_iadd dX10_mayStand_18 ?_
  rw [e6]
  refine g_iconstV (v := 1) dX10_mayStand_19 (by decide) ?_
  refine g_isub dX10_mayStand_20 ?_
  refine g_istore_n dX10_mayStand_21 (by decide) rfl ?_
  refine g_iload_n dX10_mayStand_22 rfl ?_
  refine g_callS (d1 := d - 1) (As := [_]) dX10_mayStand_23 sX10_118 (by omega) rfl rfl (Nat.le_of_ble_eq_true rfl) ?_
  refine m_isBlock ?_
  refine g_if_eq 41 dX10_mayStand_26 (by decide) (fun _ => ?_) (fun q => absurd (by decide) q)
  refine g_iload_n dX10_mayStand_41 rfl ?_
  refine g_if_ne 55 dX10_mayStand_42 (by decide) (fun _ => ?_) (fun q => absurd q (by decide))
  refine g_iload_n dX10_mayStand_55 rfl ?_
  refine g_iconstV (v := 2) dX10_mayStand_56 (by decide) ?_
  refine g_icmp_eq 65 dX10_mayStand_57 (by decide) (fun q => absurd q (by decide)) (fun _ => ?_)
  refine g_iload_n dX10_mayStand_60 rfl ?_
  refine g_iconstV (v := 3) dX10_mayStand_61 (by decide) ?_
  refine g_icmp_ne 118 dX10_mayStand_62 (by decide) (fun _ => ?_) (fun q => absurd q (by decide))
  refine g_iload_n dX10_mayStand_118 rfl ?_
  refine g_iconstV (v := 5) dX10_mayStand_119 (by decide) ?_
  refine g_icmp_ne 195 dX10_mayStand_120 (by decide) (fun _ => ?_) (fun q => absurd q (by decide))
  refine g_iload_n dX10_mayStand_195 rfl ?_
  refine g_bipushV (v := 6) dX10_mayStand_196 (by decide) ?_
  refine g_icmp_ne 216 dX10_mayStand_198 (by decide) (fun _ => ?_) (fun q => absurd q (by decide))
  refine g_iload_n dX10_mayStand_216 rfl ?_
  refine g_bipushV (v := 8) dX10_mayStand_217 (by decide) ?_
  refine g_icmp_eq 234 dX10_mayStand_219 (by decide) (fun q => absurd q (by decide)) (fun _ => ?_)
  refine g_iload_n dX10_mayStand_222 rfl ?_
  refine g_bipushV (v := 9) dX10_mayStand_223 (by decide) ?_
  refine g_icmp_eq 234 dX10_mayStand_225 (by decide) (fun _ => ?_) (fun q => absurd (rfl) q)
  refine g_aload_n dX10_mayStand_234 rfl ?_
  refine g_iconstV (v := 2) dX10_mayStand_235 (by decide) ?_
  refine g_iconstV (v := 0) dX10_mayStand_236 (by decide) ?_
  refine g_callV (d1 := d - 1) (As := [_, _]) 9 dX10_mayStand_237 vX10_121 (by omega) (mg_ob hS) rfl rfl (Nat.le_of_ble_eq_true rfl) ?_
  refine m_isPartOpen (f := 0) (by omega) hS hX (Nat.zero_le _) (fun res hres => ?_)
  rcases hres with ⟨rfl, y⟩ | ⟨rfl, j, y1, y2, y3⟩
  · refine g_if_eq 247 dX10_mayStand_240 (by decide) (fun _ => ?_) (fun q => absurd rfl q)
    refine g_iconstV (v := 0) dX10_mayStand_247 (by decide) ?_
    refine g_zret dX10_mayStand_248 rfl rfl ?_
    rw [fPO_no (fun j hj => y j (Nat.zero_le _) hj)] at k
    exact k
  · refine g_if_eq 247 dX10_mayStand_240 (by decide) (fun q => absurd q (by decide)) (fun _ => ?_)
    refine g_iconstV (v := 1) dX10_mayStand_243 (by decide) ?_
    refine g_goto 248 dX10_mayStand_244 (by decide) ?_
    refine g_zret dX10_mayStand_248 rfl rfl ?_
    rw [fPO_yes y2 y3] at k
    exact k
set_option maxHeartbeats 4000000 in
set_option maxRecDepth 20000 in
theorem m_may10 {g : GE} {d : Nat} {w : GW} {σ : MW} {Q : Option Value → GW → Prop} (hd : 2 ≤ d) (hS : SK g w) {r : Nat} {bs : List (Nat × Nat × Nat)} (hX : MX σ r bs) (k : Q (some (.int (fMay (fun i => mA σ 0 (40 * r + i)) 10 bs))) (put g σ w)) : gM g d mX10_mayStand [.ref (eB g + 70), .int 10] (put g σ w) Q := by
  refine gM.of (by decide) (Nat.le_of_ble_eq_true rfl) ?_
  obtain ⟨hR, hr4, hD, hL, hK⟩ := id hX
  have e6 : ∀ k, (6 : Int32) * nI r + nI k = nI (6 * r + k) := fun k => by rw [show (6 : Int32) = nI 6 from rfl, pk_mul, nI_add]
  replace k : Q (some (.int (fPO (fun i => mA σ 0 (40 * r + i)) 2 bs))) (put g σ w) := k
  refine g_aload_n dX10_mayStand_0 rfl ?_
  refine mg_getA 7 7 dX10_mayStand_1 fX10_31 rfl rt_7 hS ?_
  refine g_aload_n dX10_mayStand_4 rfl ?_
  refine mg_getI 11 dX10_mayStand_5 fX10_104 rfl (by decide) hS ?_
  rw [hR]
  refine mg_iald dX10_mayStand_8 rfl rfl rfl (by omega) hS ?_
  rw [hD]
  refine g_istore_n dX10_mayStand_9 (by decide) rfl ?_
  refine g_bipushV (v := 6) dX10_mayStand_10 (by decide) ?_
  refine g_aload_n dX10_mayStand_12 rfl ?_
  refine mg_getI 11 dX10_mayStand_13 fX10_104 rfl (by decide) hS ?_
  rw [hR]
  refine g_imul dX10_mayStand_16 ?_
  refine g_iload_n dX10_mayStand_17 rfl ?_
  refine g_iadd dX10_mayStand_18 ?_
  rw [e6]
  refine g_iconstV (v := 1) dX10_mayStand_19 (by decide) ?_
  refine g_isub dX10_mayStand_20 ?_
  refine g_istore_n dX10_mayStand_21 (by decide) rfl ?_
  refine g_iload_n dX10_mayStand_22 rfl ?_
  refine g_callS (d1 := d - 1) (As := [_]) dX10_mayStand_23 sX10_118 (by omega) rfl rfl (Nat.le_of_ble_eq_true rfl) ?_
  refine m_isBlock ?_
  refine g_if_eq 41 dX10_mayStand_26 (by decide) (fun _ => ?_) (fun q => absurd (by decide) q)
  refine g_iload_n dX10_mayStand_41 rfl ?_
  refine g_if_ne 55 dX10_mayStand_42 (by decide) (fun _ => ?_) (fun q => absurd q (by decide))
  refine g_iload_n dX10_mayStand_55 rfl ?_
  refine g_iconstV (v := 2) dX10_mayStand_56 (by decide) ?_
  refine g_icmp_eq 65 dX10_mayStand_57 (by decide) (fun q => absurd q (by decide)) (fun _ => ?_)
  refine g_iload_n dX10_mayStand_60 rfl ?_
  refine g_iconstV (v := 3) dX10_mayStand_61 (by decide) ?_
  refine g_icmp_ne 118 dX10_mayStand_62 (by decide) (fun _ => ?_) (fun q => absurd q (by decide))
  refine g_iload_n dX10_mayStand_118 rfl ?_
  refine g_iconstV (v := 5) dX10_mayStand_119 (by decide) ?_
  refine g_icmp_ne 195 dX10_mayStand_120 (by decide) (fun _ => ?_) (fun q => absurd q (by decide))
  refine g_iload_n dX10_mayStand_195 rfl ?_
  refine g_bipushV (v := 6) dX10_mayStand_196 (by decide) ?_
  refine g_icmp_ne 216 dX10_mayStand_198 (by decide) (fun _ => ?_) (fun q => absurd q (by decide))
  refine g_iload_n dX10_mayStand_216 rfl ?_
  refine g_bipushV (v := 8) dX10_mayStand_217 (by decide) ?_
  refine g_icmp_eq 234 dX10_mayStand_219 (by decide) (fun q => absurd q (by decide)) (fun _ => ?_)
  refine g_iload_n dX10_mayStand_222 rfl ?_
  refine g_bipushV (v := 9) dX10_mayStand_223 (by decide) ?_
  refine g_icmp_eq 234 dX10_mayStand_225 (by decide) (fun q => absurd q (by decide)) (fun _ => ?_)
  refine g_iload_n dX10_mayStand_228 rfl ?_
  refine g_bipushV (v := 10) dX10_mayStand_229 (by decide) ?_
  refine g_icmp_ne 243 dX10_mayStand_231 (by decide) (fun q => absurd (rfl) q) (fun _ => ?_)
  refine g_aload_n dX10_mayStand_234 rfl ?_
  refine g_iconstV (v := 2) dX10_mayStand_235 (by decide) ?_
  refine g_iconstV (v := 0) dX10_mayStand_236 (by decide) ?_
  refine g_callV (d1 := d - 1) (As := [_, _]) 9 dX10_mayStand_237 vX10_121 (by omega) (mg_ob hS) rfl rfl (Nat.le_of_ble_eq_true rfl) ?_
  refine m_isPartOpen (f := 0) (by omega) hS hX (Nat.zero_le _) (fun res hres => ?_)
  rcases hres with ⟨rfl, y⟩ | ⟨rfl, j, y1, y2, y3⟩
  · refine g_if_eq 247 dX10_mayStand_240 (by decide) (fun _ => ?_) (fun q => absurd rfl q)
    refine g_iconstV (v := 0) dX10_mayStand_247 (by decide) ?_
    refine g_zret dX10_mayStand_248 rfl rfl ?_
    rw [fPO_no (fun j hj => y j (Nat.zero_le _) hj)] at k
    exact k
  · refine g_if_eq 247 dX10_mayStand_240 (by decide) (fun q => absurd q (by decide)) (fun _ => ?_)
    refine g_iconstV (v := 1) dX10_mayStand_243 (by decide) ?_
    refine g_goto 248 dX10_mayStand_244 (by decide) ?_
    refine g_zret dX10_mayStand_248 rfl rfl ?_
    rw [fPO_yes y2 y3] at k
    exact k
set_option maxHeartbeats 4000000 in
set_option maxRecDepth 20000 in
theorem m_mayE {g : GE} {d : Nat} {w : GW} {σ : MW} {Q : Option Value → GW → Prop} (hd : 2 ≤ d) (hS : SK g w) {r : Nat} {bs : List (Nat × Nat × Nat)} (hX : MX σ r bs) {v : Nat} (hv : v = 7 ∨ 12 ≤ v) (hv2 : v < 25) (k : Q (some (.int (fMay (fun i => mA σ 0 (40 * r + i)) v bs))) (put g σ w)) : gM g d mX10_mayStand [.ref (eB g + 70), .int (nI v)] (put g σ w) Q := by
  refine gM.of (by decide) (Nat.le_of_ble_eq_true rfl) ?_
  obtain ⟨hR, hr4, hD, hL, hK⟩ := id hX
  have e6 : ∀ k, (6 : Int32) * nI r + nI k = nI (6 * r + k) := fun k => by rw [show (6 : Int32) = nI 6 from rfl, pk_mul, nI_add]
  have ek : fMay (fun i => mA σ 0 (40 * r + i)) v bs = 1 := by unfold fMay; rw [if_neg (by omega), if_neg (by omega), if_neg (by omega), if_neg (by omega), if_neg (by omega), if_neg (by omega)]
  rw [ek] at k
  have eb : fBlock (nI v) = 0 := by unfold fBlock; rw [if_neg (show ¬ nI v = 1 from fun z => absurd ((nI_eq (b := 1) (by omega) (by decide)).mp z) (by omega)), if_neg (show ¬ nI v = 4 from fun z => absurd ((nI_eq (b := 4) (by omega) (by decide)).mp z) (by omega)), if_neg (show ¬ nI v = 11 from fun z => absurd ((nI_eq (b := 11) (by omega) (by decide)).mp z) (by omega))]
  refine g_aload_n dX10_mayStand_0 rfl ?_
  refine mg_getA 7 7 dX10_mayStand_1 fX10_31 rfl rt_7 hS ?_
  refine g_aload_n dX10_mayStand_4 rfl ?_
  refine mg_getI 11 dX10_mayStand_5 fX10_104 rfl (by decide) hS ?_
  rw [hR]
  refine mg_iald dX10_mayStand_8 rfl rfl rfl (by omega) hS ?_
  rw [hD]
  refine g_istore_n dX10_mayStand_9 (by decide) rfl ?_
  refine g_bipushV (v := 6) dX10_mayStand_10 (by decide) ?_
  refine g_aload_n dX10_mayStand_12 rfl ?_
  refine mg_getI 11 dX10_mayStand_13 fX10_104 rfl (by decide) hS ?_
  rw [hR]
  refine g_imul dX10_mayStand_16 ?_
  refine g_iload_n dX10_mayStand_17 rfl ?_
  refine g_iadd dX10_mayStand_18 ?_
  rw [e6]
  refine g_iconstV (v := 1) dX10_mayStand_19 (by decide) ?_
  refine g_isub dX10_mayStand_20 ?_
  refine g_istore_n dX10_mayStand_21 (by decide) rfl ?_
  refine g_iload_n dX10_mayStand_22 rfl ?_
  refine g_callS (d1 := d - 1) (As := [_]) dX10_mayStand_23 sX10_118 (by omega) rfl rfl (Nat.le_of_ble_eq_true rfl) ?_
  refine m_isBlock ?_
  refine g_if_eq 41 dX10_mayStand_26 (by decide) (fun _ => ?_) (fun q => absurd (eb) q)
  refine g_iload_n dX10_mayStand_41 rfl ?_
  refine g_if_ne 55 dX10_mayStand_42 (by decide) (fun _ => ?_) (fun q => absurd q (fun z => absurd ((nI_eq (b := 0) (by omega) (by decide)).mp z) (by omega)))
  refine g_iload_n dX10_mayStand_55 rfl ?_
  refine g_iconstV (v := 2) dX10_mayStand_56 (by decide) ?_
  refine g_icmp_eq 65 dX10_mayStand_57 (by decide) (fun q => absurd q (fun z => absurd ((nI_eq (b := 2) (by omega) (by decide)).mp z) (by omega))) (fun _ => ?_)
  refine g_iload_n dX10_mayStand_60 rfl ?_
  refine g_iconstV (v := 3) dX10_mayStand_61 (by decide) ?_
  refine g_icmp_ne 118 dX10_mayStand_62 (by decide) (fun _ => ?_) (fun q => absurd q (fun z => absurd ((nI_eq (b := 3) (by omega) (by decide)).mp z) (by omega)))
  refine g_iload_n dX10_mayStand_118 rfl ?_
  refine g_iconstV (v := 5) dX10_mayStand_119 (by decide) ?_
  refine g_icmp_ne 195 dX10_mayStand_120 (by decide) (fun _ => ?_) (fun q => absurd q (fun z => absurd ((nI_eq (b := 5) (by omega) (by decide)).mp z) (by omega)))
  refine g_iload_n dX10_mayStand_195 rfl ?_
  refine g_bipushV (v := 6) dX10_mayStand_196 (by decide) ?_
  refine g_icmp_ne 216 dX10_mayStand_198 (by decide) (fun _ => ?_) (fun q => absurd q (fun z => absurd ((nI_eq (b := 6) (by omega) (by decide)).mp z) (by omega)))
  refine g_iload_n dX10_mayStand_216 rfl ?_
  refine g_bipushV (v := 8) dX10_mayStand_217 (by decide) ?_
  refine g_icmp_eq 234 dX10_mayStand_219 (by decide) (fun q => absurd q (fun z => absurd ((nI_eq (b := 8) (by omega) (by decide)).mp z) (by omega))) (fun _ => ?_)
  refine g_iload_n dX10_mayStand_222 rfl ?_
  refine g_bipushV (v := 9) dX10_mayStand_223 (by decide) ?_
  refine g_icmp_eq 234 dX10_mayStand_225 (by decide) (fun q => absurd q (fun z => absurd ((nI_eq (b := 9) (by omega) (by decide)).mp z) (by omega))) (fun _ => ?_)
  refine g_iload_n dX10_mayStand_228 rfl ?_
  refine g_bipushV (v := 10) dX10_mayStand_229 (by decide) ?_
  refine g_icmp_ne 243 dX10_mayStand_231 (by decide) (fun _ => ?_) (fun q => absurd q (fun z => absurd ((nI_eq (b := 10) (by omega) (by decide)).mp z) (by omega)))
  refine g_iconstV (v := 1) dX10_mayStand_243 (by decide) ?_
  refine g_goto 248 dX10_mayStand_244 (by decide) ?_
  refine g_zret dX10_mayStand_248 rfl rfl ?_
  exact k
theorem m_mayStand {g : GE} {d : Nat} {w : GW} {σ : MW} {Q : Option Value → GW → Prop} (hd : 2 ≤ d) (hS : SK g w) {r : Nat} {bs : List (Nat × Nat × Nat)} (hX : MX σ r bs) (hLp : ∀ j, j < bs.length → mA σ 0 (40 * r + (nth bs j).1) = 4 → ¬ mA σ 0 (40 * r + (nth bs j).2.1) = 3) {v : Nat} (hv : v < 25) (k : Q (some (.int (fMay (fun i => mA σ 0 (40 * r + i)) v bs))) (put g σ w)) : gM g d mX10_mayStand [.ref (eB g + 70), .int (nI v)] (put g σ w) Q := by
  by_cases h12 : v = 7 ∨ 12 ≤ v
  · exact m_mayE hd hS hX h12 hv k
  · rcases (show v = 0 ∨ v = 1 ∨ v = 2 ∨ v = 3 ∨ v = 4 ∨ v = 5 ∨ v = 6 ∨ v = 8 ∨ v = 9 ∨ v = 10 ∨ v = 11 by omega) with rfl | rfl | rfl | rfl | rfl | rfl | rfl | rfl | rfl | rfl | rfl
    · exact m_may0 hd hS hX k
    · exact m_may1 hd hS hX k
    · exact m_may2 hd hS hX k
    · exact m_may3 hd hS hX k
    · exact m_may4 hd hS hX k
    · exact m_may5 hd hS hX hLp k
    · exact m_may6 hd hS hX k
    · exact m_may8 hd hS hX k
    · exact m_may9 hd hS hX k
    · exact m_may10 hd hS hX k
    · exact m_may11 hd hS hX k
