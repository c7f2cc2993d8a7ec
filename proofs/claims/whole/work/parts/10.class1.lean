def dMost : UInt64 := 4831355200913801216
def dLeast : UInt64 := 14054727237768577024
def fBeyond (x : UInt64) : Prop := FP.dcmp x dMost = some .gt ∨ FP.dcmp x dLeast = some .lt
/-- Dials.at -/
def cAt (g : GE) (w : GW) (i : Int32) : UInt64 := if i < 0 ∨ 8 ≤ i then FP.dconst0 else gD w (eB g + 67) i.toNatClampNeg
theorem cAt_in {g : GE} {w : GW} {j : Nat} (h : j < 8) : cAt g w (nI j) = gD w (eB g + 67) j := by
  rw [cAt, if_neg (fun q => q.elim (nI_pos (by omega)) (nI_ge h (by decide))), nI_clamp (by omega)]
set_option maxHeartbeats 4000000 in
set_option maxRecDepth 20000 in
theorem c_at {g : GE} {d : Nat} {w : GW} {Q : Option Value → GW → Prop} {i : Int32} (hS : SK g w) (k : Q (some (.double (cAt g w i))) w) : gM g d mX2_at [.ref (eB g + 66), .int i] w Q := by
  refine gM.of (by decide) (Nat.le_of_ble_eq_true rfl) ?_
  have o66 : gOb g w (eB g + 66) 2 := hS.ob 66 rfl
  have o67 : gOb g w (eB g + 67) 10 := hS.ob 67 rfl
  have l67 : gL w (eB g + 67) = 8 := hS.len 67 rfl (by decide)
  have r66 : gR w 128 (eB g + 66) = some (eB g + 67) := hS.rf 128 66 67 (by decide)
  refine g_iload_n dX2_at_0 rfl ?_
  refine g_if_lt 19 dX2_at_1 (by decide) (fun c1 => ?_) (fun c1 => ?_)
  · refine g_dconst0 dX2_at_19 ?_
    refine g_dret dX2_at_20 rfl ?_
    first
      | (rw [cAt_in hj] at k; exact k)
      | (simpa [cAt, c1] using k)
  · refine g_iload_n dX2_at_4 rfl ?_
    refine g_bipushV (v := 8) dX2_at_5 (by decide) ?_
    refine g_icmp_ge 19 dX2_at_7 (by decide) (fun c2 => ?_) (fun c2 => ?_)
    · refine g_dconst0 dX2_at_19 ?_
      refine g_dret dX2_at_20 rfl ?_
      first
        | (rw [cAt_in hj] at k; exact k)
        | (simpa [cAt, c1, c2] using k)
    · obtain ⟨j, hj, rfl⟩ := nI_of_rng (n := 8) c1 c2 (by decide)
      have hj8 : j < gL w (eB g + 67) := by rw [l67]; exact hj
      have hji : nI j = nI j := rfl
      refine g_aload_n dX2_at_10 rfl ?_
      refine g_getR 2 0 128 dX2_at_11 fX2_9 rfl rfl (by assumption) (by assumption) ?_
      refine g_iload_n dX2_at_14 rfl ?_
      refine g_dald dX2_at_15 (by assumption) (by assumption) (by assumption) ?_
      refine g_goto 20 dX2_at_16 (by decide) ?_
      refine g_dret dX2_at_20 rfl ?_
      first
        | (rw [cAt_in hj] at k; exact k)
        | (simpa [cAt, c1, c2] using k)
set_option maxHeartbeats 4000000 in
set_option maxRecDepth 20000 in
theorem c_wholeAt {g : GE} {d : Nat} {w : GW} {Q : Option Value → GW → Prop} (hd : 1 ≤ d) {i : Int32} (hS : SK g w) (k : Q (some (.int (FP.d2i (cAt g w i)))) w) : gM g d mX2_wholeAt [.ref (eB g + 66), .int i] w Q := by
  refine gM.of (by decide) (Nat.le_of_ble_eq_true rfl) ?_
  have o66 : gOb g w (eB g + 66) 2 := hS.ob 66 rfl
  refine g_aload_n dX2_wholeAt_0 rfl ?_
  refine g_iload_n dX2_wholeAt_1 rfl ?_
  refine g_callV (d1 := d - 1) (As := [_]) 2 dX2_wholeAt_2 vX2_13 (by omega) (by assumption) rfl rfl (Nat.le_of_ble_eq_true rfl) ?_
  refine c_at hS ?_
  refine g_d2i dX2_wholeAt_5 ?_
  refine g_iret dX2_wholeAt_6 rfl ?_
  exact k
set_option maxHeartbeats 4000000 in
set_option maxRecDepth 20000 in
theorem c_turn {g : GE} {d : Nat} {w : GW} {Q : Option Value → GW → Prop} {j : Nat} {x : UInt64} (hS : SK g w) (hj : j < 8) (k1 : fBeyond x → Q (some (.int 8)) w) (k2 : ¬ fBeyond x → Q (some (.int 0)) (setD w (eB g + 67) j x)) : gM g d mX2_turn [.ref (eB g + 66), .int (nI j), .double x] w Q := by
  refine gM.of (by decide) (Nat.le_of_ble_eq_true rfl) ?_
  have o66 : gOb g w (eB g + 66) 2 := hS.ob 66 rfl
  have o67 : gOb g w (eB g + 67) 10 := hS.ob 67 rfl
  have l67 : gL w (eB g + 67) = 8 := hS.len 67 rfl (by decide)
  have r66 : gR w 128 (eB g + 66) = some (eB g + 67) := hS.rf 128 66 67 (by decide)
  have hj8 : j < gL w (eB g + 67) := by rw [l67]; exact hj
  have hji : nI j = nI j := rfl
  refine g_dload_n dX2_turn_0 rfl ?_
  refine g_ldc2d dX2_turn_1 qX2_17 ?_
  refine g_dcmp dX2_turn_4 ?_
  refine g_if_gt 16 dX2_turn_5 (by decide) (fun c1 => ?_) (fun c1 => ?_)
  · refine g_bipushV (v := 8) dX2_turn_16 (by decide) ?_
    refine g_iret dX2_turn_18 rfl ?_
    first
      | exact k1 (Or.inl ((cv_gtl _).mp c1))
      | exact absurd c3 (nI_pos (by omega))
      | exact absurd c4 (nI_ge hj (by decide))
      | exact k2 (fun q => q.elim (fun q => c1 ((cv_gtl _).mpr q)) (fun q => (cv_geg _).mp c2 q))
      | exact k1 (Or.inr (Classical.byContradiction fun q => c2 ((cv_geg _).mpr q)))
  · refine g_dload_n dX2_turn_8 rfl ?_
    refine g_ldc2d dX2_turn_9 qX2_19 ?_
    refine g_dcmp dX2_turn_12 ?_
    refine g_if_ge 19 dX2_turn_13 (by decide) (fun c2 => ?_) (fun c2 => ?_)
    · refine g_iload_n dX2_turn_19 rfl ?_
      refine g_if_lt 36 dX2_turn_20 (by decide) (fun c3 => ?_) (fun c3 => ?_)
      · refine g_iconstV (v := 0) dX2_turn_36 (by decide) ?_
        refine g_iret dX2_turn_37 rfl ?_
        first
          | exact k1 (Or.inl ((cv_gtl _).mp c1))
          | exact absurd c3 (nI_pos (by omega))
          | exact absurd c4 (nI_ge hj (by decide))
          | exact k2 (fun q => q.elim (fun q => c1 ((cv_gtl _).mpr q)) (fun q => (cv_geg _).mp c2 q))
          | exact k1 (Or.inr (Classical.byContradiction fun q => c2 ((cv_geg _).mpr q)))
      · refine g_iload_n dX2_turn_23 rfl ?_
        refine g_bipushV (v := 8) dX2_turn_24 (by decide) ?_
        refine g_icmp_ge 36 dX2_turn_26 (by decide) (fun c4 => ?_) (fun c4 => ?_)
        · refine g_iconstV (v := 0) dX2_turn_36 (by decide) ?_
          refine g_iret dX2_turn_37 rfl ?_
          first
            | exact k1 (Or.inl ((cv_gtl _).mp c1))
            | exact absurd c3 (nI_pos (by omega))
            | exact absurd c4 (nI_ge hj (by decide))
            | exact k2 (fun q => q.elim (fun q => c1 ((cv_gtl _).mpr q)) (fun q => (cv_geg _).mp c2 q))
            | exact k1 (Or.inr (Classical.byContradiction fun q => c2 ((cv_geg _).mpr q)))
        · refine g_aload_n dX2_turn_29 rfl ?_
          refine g_getR 2 0 128 dX2_turn_30 fX2_9 rfl rfl (by assumption) (by assumption) ?_
          refine g_iload_n dX2_turn_33 rfl ?_
          refine g_dload_n dX2_turn_34 rfl ?_
          refine g_dast dX2_turn_35 (by assumption) (by assumption) (by assumption) ?_
          refine g_iconstV (v := 0) dX2_turn_36 (by decide) ?_
          refine g_iret dX2_turn_37 rfl ?_
          first
            | exact k1 (Or.inl ((cv_gtl _).mp c1))
            | exact absurd c3 (nI_pos (by omega))
            | exact absurd c4 (nI_ge hj (by decide))
            | exact k2 (fun q => q.elim (fun q => c1 ((cv_gtl _).mpr q)) (fun q => (cv_geg _).mp c2 q))
            | exact k1 (Or.inr (Classical.byContradiction fun q => c2 ((cv_geg _).mpr q)))
    · refine g_bipushV (v := 8) dX2_turn_16 (by decide) ?_
      refine g_iret dX2_turn_18 rfl ?_
      first
        | exact k1 (Or.inl ((cv_gtl _).mp c1))
        | exact absurd c3 (nI_pos (by omega))
        | exact absurd c4 (nI_ge hj (by decide))
        | exact k2 (fun q => q.elim (fun q => c1 ((cv_gtl _).mpr q)) (fun q => (cv_geg _).mp c2 q))
        | exact k1 (Or.inr (Classical.byContradiction fun q => c2 ((cv_geg _).mpr q)))
set_option maxHeartbeats 4000000 in
set_option maxRecDepth 20000 in
theorem c_empty {g : GE} {d : Nat} {w : GW} {Q : Option Value → GW → Prop} (hS : SK g w) (k : Q none (setI w 257 (eB g + 68) 0)) : gM g d mX4_empty [.ref (eB g + 68)] w Q := by
  refine gM.of (by decide) (Nat.le_of_ble_eq_true rfl) ?_
  have o68 : gOb g w (eB g + 68) 4 := hS.ob 68 rfl
  refine g_aload_n dX4_empty_0 rfl ?_
  refine g_iconstV (v := 0) dX4_empty_1 (by decide) ?_
  refine g_putI 4 1 257 dX4_empty_2 fX4_15 rfl rfl (by assumption) ?_
  refine g_vret dX4_empty_5 rfl ?_
  exact k
set_option maxHeartbeats 4000000 in
set_option maxRecDepth 20000 in
theorem c_append {g : GE} {d : Nat} {w : GW} {Q : Option Value → GW → Prop} {n : Nat} {x : UInt64} (hS : SK g w) (hu : gI w 257 (eB g + 68) = nI n) (hn : n < 800) (k : Q none (setI (setD w (eB g + 69) n x) 257 (eB g + 68) (nI (n + 1)))) : gM g d mX4_append [.ref (eB g + 68), .double x] w Q := by
  refine gM.of (by decide) (Nat.le_of_ble_eq_true rfl) ?_
  have o68 : gOb g w (eB g + 68) 4 := hS.ob 68 rfl
  have o69 : gOb g w (eB g + 69) 10 := hS.ob 69 rfl
  have l69 : gL w (eB g + 69) = 800 := hS.len 69 rfl (by decide)
  have r68 : gR w 256 (eB g + 68) = some (eB g + 69) := hS.rf 256 68 69 (by decide)
  have hj8 : n < gL w (eB g + 69) := by rw [l69]; exact hn
  refine g_aload_n dX4_append_0 rfl ?_
  refine g_getI 4 1 257 dX4_append_1 fX4_15 rfl rfl (by assumption) ?_
  refine g_if_lt 37 dX4_append_4 (by decide) (fun c1 => ?_) (fun c1 => ?_)
  · refine g_vret dX4_append_37 rfl ?_
    first
      | (rw [hu] at c1; exact absurd c1 (nI_pos (by omega)))
      | (rw [hu] at c2; exact absurd c2 (nI_ge hn (by decide)))
      | (have e : gI w 257 (eB g + 68) + 1 = nI (n + 1) := (by rw [hu]; exact nI_1 n)
         exact e ▸ k)
  · refine g_aload_n dX4_append_7 rfl ?_
    refine g_getI 4 1 257 dX4_append_8 fX4_15 rfl rfl (by assumption) ?_
    refine g_sipushV (v := 800) dX4_append_11 (by decide) ?_
    refine g_icmp_ge 37 dX4_append_14 (by decide) (fun c2 => ?_) (fun c2 => ?_)
    · refine g_vret dX4_append_37 rfl ?_
      first
        | (rw [hu] at c1; exact absurd c1 (nI_pos (by omega)))
        | (rw [hu] at c2; exact absurd c2 (nI_ge hn (by decide)))
        | (have e : gI w 257 (eB g + 68) + 1 = nI (n + 1) := (by rw [hu]; exact nI_1 n)
           exact e ▸ k)
    · refine g_aload_n dX4_append_17 rfl ?_
      refine g_getR 4 0 256 dX4_append_18 fX4_11 rfl rfl (by assumption) (by assumption) ?_
      refine g_aload_n dX4_append_21 rfl ?_
      refine g_getI 4 1 257 dX4_append_22 fX4_15 rfl rfl (by assumption) ?_
      refine g_dload_n dX4_append_25 rfl ?_
      refine g_dast dX4_append_26 (by assumption) (by assumption) (by assumption) ?_
      refine g_aload_n dX4_append_27 rfl ?_
      refine g_dup dX4_append_28 rfl ?_
      refine g_getI 4 1 257 dX4_append_29 fX4_15 rfl rfl (by assumption) ?_
      refine g_iconstV (v := 1) dX4_append_32 (by decide) ?_
      refine g_iadd dX4_append_33 ?_
      refine g_putI 4 1 257 dX4_append_34 fX4_15 rfl rfl (by assumption) ?_
      refine g_vret dX4_append_37 rfl ?_
      first
        | (rw [hu] at c1; exact absurd c1 (nI_pos (by omega)))
        | (rw [hu] at c2; exact absurd c2 (nI_ge hn (by decide)))
        | (have e : gI w 257 (eB g + 68) + 1 = nI (n + 1) := (by rw [hu]; exact nI_1 n)
           exact e ▸ k)
def cLog (g : GE) (w : GW) (i : Int32) : UInt64 := if i < 0 ∨ gI w 257 (eB g + 68) ≤ i ∨ 800 ≤ i then FP.dconst0 else gD w (eB g + 69) i.toNatClampNeg
set_option maxHeartbeats 4000000 in
set_option maxRecDepth 20000 in
theorem c_logAt {g : GE} {d : Nat} {w : GW} {Q : Option Value → GW → Prop} {i : Int32} (hS : SK g w) (k : Q (some (.double (cLog g w i))) w) : gM g d mX4_at [.ref (eB g + 68), .int i] w Q := by
  refine gM.of (by decide) (Nat.le_of_ble_eq_true rfl) ?_
  have o68 : gOb g w (eB g + 68) 4 := hS.ob 68 rfl
  have o69 : gOb g w (eB g + 69) 10 := hS.ob 69 rfl
  have l69 : gL w (eB g + 69) = 800 := hS.len 69 rfl (by decide)
  have r68 : gR w 256 (eB g + 68) = some (eB g + 69) := hS.rf 256 68 69 (by decide)
  refine g_iload_n dX4_at_0 rfl ?_
  refine g_if_lt 28 dX4_at_1 (by decide) (fun c1 => ?_) (fun c1 => ?_)
  · refine g_dconst0 dX4_at_28 ?_
    refine g_dret dX4_at_29 rfl ?_
    first
      | (rw [ek] at k; exact k)
      | (simpa [cLog, c1] using k)
  · refine g_iload_n dX4_at_4 rfl ?_
    refine g_aload_n dX4_at_5 rfl ?_
    refine g_getI 4 1 257 dX4_at_6 fX4_15 rfl rfl (by assumption) ?_
    refine g_icmp_ge 28 dX4_at_9 (by decide) (fun c2 => ?_) (fun c2 => ?_)
    · refine g_dconst0 dX4_at_28 ?_
      refine g_dret dX4_at_29 rfl ?_
      first
        | (rw [ek] at k; exact k)
        | (simpa [cLog, c1, c2] using k)
    · refine g_iload_n dX4_at_12 rfl ?_
      refine g_sipushV (v := 800) dX4_at_13 (by decide) ?_
      refine g_icmp_ge 28 dX4_at_16 (by decide) (fun c3 => ?_) (fun c3 => ?_)
      · refine g_dconst0 dX4_at_28 ?_
        refine g_dret dX4_at_29 rfl ?_
        first
          | (rw [ek] at k; exact k)
          | (simpa [cLog, c1, c2, c3] using k)
      · obtain ⟨j, hj, rfl⟩ := nI_of_rng (n := 800) c1 c3 (by decide)
        have hj8 : j < gL w (eB g + 69) := by rw [l69]; exact hj
        have hji : nI j = nI j := rfl
        have ek : cLog g w (nI j) = gD w (eB g + 69) j := by rw [cLog, if_neg (fun q => q.elim c1 (fun q => q.elim c2 c3)), nI_clamp (by omega)]
        refine g_aload_n dX4_at_19 rfl ?_
        refine g_getR 4 0 256 dX4_at_20 fX4_11 rfl rfl (by assumption) (by assumption) ?_
        refine g_iload_n dX4_at_23 rfl ?_
        refine g_dald dX4_at_24 (by assumption) (by assumption) (by assumption) ?_
        refine g_goto 29 dX4_at_25 (by decide) ?_
        refine g_dret dX4_at_29 rfl ?_
        first
          | (rw [ek] at k; exact k)
          | (simpa [cLog, c1, c2, c3] using k)
theorem rw_tab1 : ∀ r, r < 18 → kTab[12 + 3 * r]? = some 6 ∧ kTab[13 + 3 * r]? = some 10 ∧ kTab[14 + 3 * r]? = some 12 := by decide +kernel
theorem rw_tab2 : ∀ r, r < 18 → lTab[13 + 3 * r]? = some 16 ∧ lTab[14 + 3 * r]? = some 16 := by decide +kernel
theorem rw_tab3 : ∀ r, r < 18 → (385, 12 + 3 * r, 13 + 3 * r) ∈ rTab ∧ (386, 12 + 3 * r, 14 + 3 * r) ∈ rTab := by decide +kernel
theorem rw_tab4 : ∀ r, r < 18 → (384, 12 + 3 * r, nI (r / 2)) ∈ iTab := by decide +kernel
theorem rw_tab5 : ∀ r, r < 18 → (11, r, 12 + 3 * r) ∈ pTab := by decide +kernel
theorem rw_tab6 : ∀ r, r < 18 → 10 ≤ kTab.getD (13 + 3 * r) 0 ∧ 10 ≤ kTab.getD (14 + 3 * r) 0 := by decide +kernel
/-- the address of Row r, of its doubles, of its flags -/
def aRow (g : GE) (r : Nat) : Nat := eB g + (12 + 3 * r)
def aRd (g : GE) (r : Nat) : Nat := eB g + (13 + 3 * r)
def aRz (g : GE) (r : Nat) : Nat := eB g + (14 + 3 * r)
theorem SK.row {g : GE} {w : GW} (h : SK g w) {r : Nat} (hr : r < 18) : gOb g w (aRow g r) 6 ∧ gOb g w (aRd g r) 10 ∧ gOb g w (aRz g r) 12 ∧ gL w (aRd g r) = 16 ∧ gL w (aRz g r) = 16 ∧ gR w 385 (aRow g r) = some (aRd g r) ∧ gR w 386 (aRow g r) = some (aRz g r) ∧ gI w 384 (aRow g r) = nI (r / 2) ∧ gP w (eB g + 11) r = some (aRow g r) := by
  obtain ⟨h1, h2, h3⟩ := rw_tab1 r hr
  obtain ⟨h4, h5⟩ := rw_tab2 r hr
  obtain ⟨h6, h7⟩ := rw_tab3 r hr
  have h8 := rw_tab4 r hr
  have h9 := rw_tab5 r hr
  obtain ⟨h10, h11⟩ := rw_tab6 r hr
  exact ⟨h.ob _ h1, h.ob _ h2, h.ob _ h3, h.len _ h4 h10, h.len _ h5 h11, h.rf _ _ _ h6, h.rf _ _ _ h7, h.it _ _ _ h8, h.pt _ _ _ h9⟩
def rowPl (g : GE) (w : GW) (r : Nat) : Int32 := gI w 387 (aRow g r)
def fFaultAt (pl i : Int32) : Int32 := if 0 ≤ pl then (if i < 0 ∨ pl ≤ i ∨ 16 ≤ i then 4 else 0) else 3
theorem fFaultAt_0 {pl i : Int32} (h : fFaultAt pl i = 0) : ∃ j : Nat, j < 16 ∧ i = nI j ∧ ¬ pl ≤ i ∧ 0 ≤ pl := by
  unfold fFaultAt at h
  by_cases h1 : 0 ≤ pl
  · rw [if_pos h1] at h
    by_cases h2 : i < 0 ∨ pl ≤ i ∨ 16 ≤ i
    · rw [if_pos h2] at h; exact absurd h (by decide)
    · obtain ⟨j, hj, e⟩ := nI_of_rng (n := 16) (fun q => h2 (Or.inl q)) (fun q => h2 (Or.inr (Or.inr q))) (by decide)
      exact ⟨j, hj, e, fun q => h2 (Or.inr (Or.inl q)), h1⟩
  · rw [if_neg h1] at h; exact absurd h (by decide)
def fUse (g : GE) (w : GW) (r : Nat) (i : Int32) : Int32 := if fFaultAt (rowPl g w r) i = 0 then (if gA w (aRz g r) i.toNatClampNeg = 0 then 3 else 0) else fFaultAt (rowPl g w r) i
theorem fUse_ne {g : GE} {w : GW} {r : Nat} {i v : Int32} (h : fFaultAt (rowPl g w r) i = v) (hv : ¬ v = 0) : fUse g w r i = v := by
  have hn : ¬ fFaultAt (rowPl g w r) i = 0 := by rw [h]; exact hv
  unfold fUse
  rw [if_neg hn, h]
set_option maxHeartbeats 4000000 in
set_option maxRecDepth 20000 in
theorem c_faultAt {g : GE} {d : Nat} {w : GW} {Q : Option Value → GW → Prop} {r : Nat} {i : Int32} (hS : SK g w) (hr : r < 18) (k : Q (some (.int (fFaultAt (rowPl g w r) i))) w) : gM g d mX6_faultAt [.ref (aRow g r), .int i, .int 1] w Q := by
  refine gM.of (by decide) (Nat.le_of_ble_eq_true rfl) ?_
  obtain ⟨o1, o2, o3, l2, l3, r2, r3, i1, p1⟩ := hS.row hr
  refine g_aload_n dX6_faultAt_0 rfl ?_
  refine g_getI 6 3 387 dX6_faultAt_1 fX6_21 rfl rfl (by assumption) ?_
  refine g_if_ge 9 dX6_faultAt_4 (by decide) (fun c1 => ?_) (fun c1 => ?_)
  · refine g_iload_n dX6_faultAt_9 rfl ?_
    refine g_if_lt 27 dX6_faultAt_10 (by decide) (fun c2 => ?_) (fun c2 => ?_)
    · refine g_iconstV (v := 4) dX6_faultAt_27 (by decide) ?_
      refine g_iret dX6_faultAt_28 rfl ?_
      have e0 : fFaultAt (rowPl g w r) i = 4 := by simp only [fFaultAt, rowPl, c1, c2, if_true, if_false, true_or, or_true, or_self, false_or, or_false]
      rw [e0] at k
      exact k
    · refine g_iload_n dX6_faultAt_13 rfl ?_
      refine g_aload_n dX6_faultAt_14 rfl ?_
      refine g_getI 6 3 387 dX6_faultAt_15 fX6_21 rfl rfl (by assumption) ?_
      refine g_icmp_ge 27 dX6_faultAt_18 (by decide) (fun c3 => ?_) (fun c3 => ?_)
      · refine g_iconstV (v := 4) dX6_faultAt_27 (by decide) ?_
        refine g_iret dX6_faultAt_28 rfl ?_
        have e0 : fFaultAt (rowPl g w r) i = 4 := by simp only [fFaultAt, rowPl, c1, c2, c3, if_true, if_false, true_or, or_true, or_self, false_or, or_false]
        rw [e0] at k
        exact k
      · refine g_iload_n dX6_faultAt_21 rfl ?_
        refine g_bipushV (v := 16) dX6_faultAt_22 (by decide) ?_
        refine g_icmp_lt 29 dX6_faultAt_24 (by decide) (fun c4 => ?_) (fun c4 => ?_)
        · refine g_iload_n dX6_faultAt_29 rfl ?_
          refine g_if_ne 42 dX6_faultAt_30 (by decide) (fun _ => ?_) (fun q => absurd q (by decide))
          refine g_iconstV (v := 0) dX6_faultAt_42 (by decide) ?_
          refine g_goto 47 dX6_faultAt_43 (by decide) ?_
          refine g_iret dX6_faultAt_47 rfl ?_
          have q16 : ¬ (16 : Int32) ≤ i := Int32.not_le.mpr c4
          have e0 : fFaultAt (rowPl g w r) i = 0 := by simp only [fFaultAt, rowPl, c1, c2, c3, q16, if_true, if_false, true_or, or_true, or_self, false_or, or_false]
          rw [e0] at k
          exact k
        · refine g_iconstV (v := 4) dX6_faultAt_27 (by decide) ?_
          refine g_iret dX6_faultAt_28 rfl ?_
          have q16 : (16 : Int32) ≤ i := Int32.not_lt.mp c4
          have e0 : fFaultAt (rowPl g w r) i = 4 := by simp only [fFaultAt, rowPl, c1, c2, c3, q16, if_true, if_false, true_or, or_true, or_self, false_or, or_false]
          rw [e0] at k
          exact k
  · refine g_iconstV (v := 3) dX6_faultAt_7 (by decide) ?_
    refine g_iret dX6_faultAt_8 rfl ?_
    have e0 : fFaultAt (rowPl g w r) i = 3 := by simp only [fFaultAt, rowPl, c1, if_true, if_false, true_or, or_true, or_self, false_or, or_false]
    rw [e0] at k
    exact k
set_option maxHeartbeats 4000000 in
set_option maxRecDepth 20000 in
theorem c_faultOfUse {g : GE} {d : Nat} {w : GW} {Q : Option Value → GW → Prop} {r : Nat} {i : Int32} (hS : SK g w) (hr : r < 18) (k : Q (some (.int (fUse g w r i))) w) : gM g d mX6_faultAt [.ref (aRow g r), .int i, .int 0] w Q := by
  refine gM.of (by decide) (Nat.le_of_ble_eq_true rfl) ?_
  obtain ⟨o1, o2, o3, l2, l3, r2, r3, i1, p1⟩ := hS.row hr
  refine g_aload_n dX6_faultAt_0 rfl ?_
  refine g_getI 6 3 387 dX6_faultAt_1 fX6_21 rfl rfl (by assumption) ?_
  refine g_if_ge 9 dX6_faultAt_4 (by decide) (fun c1 => ?_) (fun c1 => ?_)
  · refine g_iload_n dX6_faultAt_9 rfl ?_
    refine g_if_lt 27 dX6_faultAt_10 (by decide) (fun c2 => ?_) (fun c2 => ?_)
    · refine g_iconstV (v := 4) dX6_faultAt_27 (by decide) ?_
      refine g_iret dX6_faultAt_28 rfl ?_
      have e0 : fFaultAt (rowPl g w r) i = 4 := by simp only [fFaultAt, rowPl, c1, c2, if_true, if_false, true_or, or_true, or_self, false_or, or_false]
      rw [fUse_ne e0 (by decide)] at k
      exact k
    · refine g_iload_n dX6_faultAt_13 rfl ?_
      refine g_aload_n dX6_faultAt_14 rfl ?_
      refine g_getI 6 3 387 dX6_faultAt_15 fX6_21 rfl rfl (by assumption) ?_
      refine g_icmp_ge 27 dX6_faultAt_18 (by decide) (fun c3 => ?_) (fun c3 => ?_)
      · refine g_iconstV (v := 4) dX6_faultAt_27 (by decide) ?_
        refine g_iret dX6_faultAt_28 rfl ?_
        have e0 : fFaultAt (rowPl g w r) i = 4 := by simp only [fFaultAt, rowPl, c1, c2, c3, if_true, if_false, true_or, or_true, or_self, false_or, or_false]
        rw [fUse_ne e0 (by decide)] at k
        exact k
      · refine g_iload_n dX6_faultAt_21 rfl ?_
        refine g_bipushV (v := 16) dX6_faultAt_22 (by decide) ?_
        refine g_icmp_lt 29 dX6_faultAt_24 (by decide) (fun c4 => ?_) (fun c4 => ?_)
        · refine g_iload_n dX6_faultAt_29 rfl ?_
          refine g_if_ne 42 dX6_faultAt_30 (by decide) (fun q => absurd (rfl) q) (fun _ => ?_)
          have q16 : ¬ (16 : Int32) ≤ i := Int32.not_le.mpr c4
          have e0 : fFaultAt (rowPl g w r) i = 0 := by simp only [fFaultAt, rowPl, c1, c2, c3, q16, if_true, if_false, true_or, or_true, or_self, false_or, or_false]
          obtain ⟨j, hj, rfl, -, -⟩ := fFaultAt_0 e0
          have hj8 : j < gL w (aRz g r) := by rw [l3]; exact hj
          have hji : nI j = nI j := rfl
          have ek : fUse g w r (nI j) = if gA w (aRz g r) j = 0 then 3 else 0 := by rw [fUse, if_pos e0, nI_clamp (by omega)]
          rw [ek] at k
          refine g_aload_n dX6_faultAt_33 rfl ?_
          refine g_getR 6 2 386 dX6_faultAt_34 fX6_17 rfl rfl (by assumption) (by assumption) ?_
          refine g_iload_n dX6_faultAt_37 rfl ?_
          refine g_zald dX6_faultAt_38 (by assumption) (by assumption) (by assumption) ?_
          refine g_if_eq 46 dX6_faultAt_39 (by decide) (fun c5 => ?_) (fun c5 => ?_)
          · refine g_iconstV (v := 3) dX6_faultAt_46 (by decide) ?_
            refine g_iret dX6_faultAt_47 rfl ?_
            rw [if_pos c5] at k
            exact k
          · refine g_iconstV (v := 0) dX6_faultAt_42 (by decide) ?_
            refine g_goto 47 dX6_faultAt_43 (by decide) ?_
            refine g_iret dX6_faultAt_47 rfl ?_
            rw [if_neg c5] at k
            exact k
        · refine g_iconstV (v := 4) dX6_faultAt_27 (by decide) ?_
          refine g_iret dX6_faultAt_28 rfl ?_
          have q16 : (16 : Int32) ≤ i := Int32.not_lt.mp c4
          have e0 : fFaultAt (rowPl g w r) i = 4 := by simp only [fFaultAt, rowPl, c1, c2, c3, q16, if_true, if_false, true_or, or_true, or_self, false_or, or_false]
          rw [fUse_ne e0 (by decide)] at k
          exact k
  · refine g_iconstV (v := 3) dX6_faultAt_7 (by decide) ?_
    refine g_iret dX6_faultAt_8 rfl ?_
    have e0 : fFaultAt (rowPl g w r) i = 3 := by simp only [fFaultAt, rowPl, c1, if_true, if_false, true_or, or_true, or_self, false_or, or_false]
    rw [fUse_ne e0 (by decide)] at k
    exact k
/-- Row.got -/
def cGot (g : GE) (w : GW) (r : Nat) (i : Int32) : UInt64 := if fUse g w r i = 0 then gD w (aRd g r) i.toNatClampNeg else FP.dconst0
theorem fUse_0 {g : GE} {w : GW} {r : Nat} {i : Int32} (h : fUse g w r i = 0) : fFaultAt (rowPl g w r) i = 0 := by
  unfold fUse at h
  by_cases h1 : fFaultAt (rowPl g w r) i = 0
  · exact h1
  · rw [if_neg h1] at h; exact absurd h h1
set_option maxHeartbeats 4000000 in
set_option maxRecDepth 20000 in
theorem c_got {g : GE} {d : Nat} {w : GW} {Q : Option Value → GW → Prop} (hd : 2 ≤ d) {r : Nat} {i : Int32} (hS : SK g w) (hr : r < 18) (k : Q (some (.double (cGot g w r i))) w) : gM g d mX6_got [.ref (aRow g r), .int i] w Q := by
  refine gM.of (by decide) (Nat.le_of_ble_eq_true rfl) ?_
  obtain ⟨o1, o2, o3, l2, l3, r2, r3, i1, p1⟩ := hS.row hr
  refine g_aload_n dX6_got_0 rfl ?_
  refine g_iload_n dX6_got_1 rfl ?_
  refine g_iconstV (v := 0) dX6_got_2 (by decide) ?_
  refine g_callV (d1 := d - 1) (As := [_, _]) 6 dX6_got_3 vX6_26 (by omega) (by assumption) rfl rfl (Nat.le_of_ble_eq_true rfl) ?_
  refine c_faultOfUse hS hr ?_
  refine g_if_ne 18 dX6_got_6 (by decide) (fun c1 => ?_) (fun c1 => ?_)
  · refine g_dconst0 dX6_got_18 ?_
    refine g_dret dX6_got_19 rfl ?_
    first
      | exact k
      | (rw [cGot, if_neg c1] at k; exact k)
  · obtain ⟨j, hj, rfl, -, -⟩ := fFaultAt_0 (fUse_0 c1)
    have hj8 : j < gL w (aRd g r) := by rw [l2]; exact hj
    have hj9 : j < gL w (aRz g r) := by rw [l3]; exact hj
    have hji : nI j = nI j := rfl
    have hcj : (nI j).toNatClampNeg = j := nI_clamp (by omega)
    rw [cGot, if_pos c1, hcj] at k
    refine g_aload_n dX6_got_9 rfl ?_
    refine g_getR 6 1 385 dX6_got_10 fX6_13 rfl rfl (by assumption) (by assumption) ?_
    refine g_iload_n dX6_got_13 rfl ?_
    refine g_dald dX6_got_14 (by assumption) (by assumption) (by assumption) ?_
    refine g_goto 19 dX6_got_15 (by decide) ?_
    refine g_dret dX6_got_19 rfl ?_
    first
      | exact k
      | (rw [cGot, if_neg c1] at k; exact k)
/-- Row.asHeld, by the row's kind -/
def fHeld (k : Nat) (x : UInt64) : UInt64 := if k = 0 then (if FP.dcmp x FP.dconst0 = some .eq then FP.dconst0 else FP.dconst1) else if k = 1 then FP.i2d (FP.d2i x).toInt8.toInt32 else if k = 2 then FP.i2d ((FP.d2i x).toUInt32 % 65536).toInt32 else if k = 3 then FP.i2d (FP.d2i x).toInt16.toInt32 else if k = 4 then FP.i2d (FP.d2i x) else if k = 5 then FP.l2d (FP.d2l x) else if k = 6 then FP.f2d (FP.d2f x) else x
theorem nI_lit {k : Nat} (h : k < 2 ^ 31) (n : Nat) (hn : n < 2 ^ 31) : nI k = nI n ↔ k = n := nI_eq h hn
set_option maxHeartbeats 4000000 in
set_option maxRecDepth 20000 in
theorem c_asHeld {g : GE} {d : Nat} {w : GW} {Q : Option Value → GW → Prop} {r : Nat} {x : UInt64} (hS : SK g w) (hr : r < 18) (hf1 : vf_n32 (FP.d2f x)) (hf2 : vf_n64 (FP.f2d (FP.d2f x))) (k : Q (some (.double (fHeld (r / 2) x))) w) : gM g d mX6_asHeld [.ref (aRow g r), .double x] w Q := by
  refine gM.of (by decide) (Nat.le_of_ble_eq_true rfl) ?_
  obtain ⟨o1, o2, o3, l2, l3, r2, r3, i1, p1⟩ := hS.row hr
  refine g_aload_n dX6_asHeld_0 rfl ?_
  refine g_getI 6 0 384 dX6_asHeld_1 fX6_7 rfl rfl (by assumption) ?_
  refine g_tsw dX6_asHeld_4 [48, 60, 65, 70, 75, 79, 83] 87 (by decide) (by decide) (by decide) (by decide) (by decide) ?_ (fun c1 => ?_)
  · simp only [tswK]
    refine ⟨fun c1 => ?_, fun c1 => ?_, fun c1 => ?_, fun c1 => ?_, fun c1 => ?_, fun c1 => ?_, fun c1 => ?_, trivial⟩
    · replace c1 := c1.trans (by decide : _ = (0 : Int32))
      refine g_dload_n dX6_asHeld_48 rfl ?_
      refine g_dconst0 dX6_asHeld_49 ?_
      refine g_dcmp dX6_asHeld_50 ?_
      refine g_if_eq 58 dX6_asHeld_51 (by decide) (fun c2 => ?_) (fun c2 => ?_)
      · refine g_dconst0 dX6_asHeld_58 ?_
        refine g_dret dX6_asHeld_59 rfl ?_
        have hk9 : r / 2 < 2 ^ 31 := by omega
        rw [i1] at c1
        have c1x := (nI_lit hk9 _ (by decide)).mp (c1.trans (by decide : _ = nI 0))
        rw [cv_eql] at c2
        simpa [fHeld, c1x, c2] using k
      · refine g_dconst1 dX6_asHeld_54 ?_
        refine g_goto 59 dX6_asHeld_55 (by decide) ?_
        refine g_dret dX6_asHeld_59 rfl ?_
        have hk9 : r / 2 < 2 ^ 31 := by omega
        rw [i1] at c1
        have c1x := (nI_lit hk9 _ (by decide)).mp (c1.trans (by decide : _ = nI 0))
        rw [cv_eql] at c2
        simpa [fHeld, c1x, c2] using k
    · replace c1 := c1.trans (by decide : _ = (1 : Int32))
      refine g_dload_n dX6_asHeld_60 rfl ?_
      refine g_d2i dX6_asHeld_61 ?_
      refine g_i2b dX6_asHeld_62 ?_
      refine g_i2d dX6_asHeld_63 ?_
      refine g_dret dX6_asHeld_64 rfl ?_
      have hk9 : r / 2 < 2 ^ 31 := by omega
      rw [i1] at c1
      have c1x := (nI_lit hk9 _ (by decide)).mp (c1.trans (by decide : _ = nI 1))
      simpa [fHeld, c1x] using k
    · replace c1 := c1.trans (by decide : _ = (2 : Int32))
      refine g_dload_n dX6_asHeld_65 rfl ?_
      refine g_d2i dX6_asHeld_66 ?_
      refine g_i2c dX6_asHeld_67 ?_
      refine g_i2d dX6_asHeld_68 ?_
      refine g_dret dX6_asHeld_69 rfl ?_
      have hk9 : r / 2 < 2 ^ 31 := by omega
      rw [i1] at c1
      have c1x := (nI_lit hk9 _ (by decide)).mp (c1.trans (by decide : _ = nI 2))
      simpa [fHeld, c1x] using k
    · replace c1 := c1.trans (by decide : _ = (3 : Int32))
      refine g_dload_n dX6_asHeld_70 rfl ?_
      refine g_d2i dX6_asHeld_71 ?_
      refine g_i2s dX6_asHeld_72 ?_
      refine g_i2d dX6_asHeld_73 ?_
      refine g_dret dX6_asHeld_74 rfl ?_
      have hk9 : r / 2 < 2 ^ 31 := by omega
      rw [i1] at c1
      have c1x := (nI_lit hk9 _ (by decide)).mp (c1.trans (by decide : _ = nI 3))
      simpa [fHeld, c1x] using k
    · replace c1 := c1.trans (by decide : _ = (4 : Int32))
      refine g_dload_n dX6_asHeld_75 rfl ?_
      refine g_d2i dX6_asHeld_76 ?_
      refine g_i2d dX6_asHeld_77 ?_
      refine g_dret dX6_asHeld_78 rfl ?_
      have hk9 : r / 2 < 2 ^ 31 := by omega
      rw [i1] at c1
      have c1x := (nI_lit hk9 _ (by decide)).mp (c1.trans (by decide : _ = nI 4))
      simpa [fHeld, c1x] using k
    · replace c1 := c1.trans (by decide : _ = (5 : Int32))
      refine g_dload_n dX6_asHeld_79 rfl ?_
      refine g_d2l dX6_asHeld_80 ?_
      refine g_l2d dX6_asHeld_81 ?_
      refine g_dret dX6_asHeld_82 rfl ?_
      have hk9 : r / 2 < 2 ^ 31 := by omega
      rw [i1] at c1
      have c1x := (nI_lit hk9 _ (by decide)).mp (c1.trans (by decide : _ = nI 5))
      simpa [fHeld, c1x] using k
    · replace c1 := c1.trans (by decide : _ = (6 : Int32))
      refine g_dload_n dX6_asHeld_83 rfl ?_
      refine g_d2f dX6_asHeld_84 hf1 ?_
      refine g_f2d dX6_asHeld_85 hf2 ?_
      refine g_dret dX6_asHeld_86 rfl ?_
      have hk9 : r / 2 < 2 ^ 31 := by omega
      rw [i1] at c1
      have c1x := (nI_lit hk9 _ (by decide)).mp (c1.trans (by decide : _ = nI 6))
      simpa [fHeld, c1x] using k
  · have c1n0 := tsw_ne c1 0 (by decide)
    have c1n1 := tsw_ne c1 1 (by decide)
    have c1n2 := tsw_ne c1 2 (by decide)
    have c1n3 := tsw_ne c1 3 (by decide)
    have c1n4 := tsw_ne c1 4 (by decide)
    have c1n5 := tsw_ne c1 5 (by decide)
    have c1n6 := tsw_ne c1 6 (by decide)
    refine g_dload_n dX6_asHeld_87 rfl ?_
    refine g_dret dX6_asHeld_88 rfl ?_
    have hk9 : r / 2 < 2 ^ 31 := by omega
    rw [i1] at c1n0 c1n1 c1n2 c1n3 c1n4 c1n5 c1n6
    have c1n0x : ¬ r / 2 = 0 := fun z => c1n0 (by rw [z]; rfl)
    have c1n1x : ¬ r / 2 = 1 := fun z => c1n1 (by rw [z]; rfl)
    have c1n2x : ¬ r / 2 = 2 := fun z => c1n2 (by rw [z]; rfl)
    have c1n3x : ¬ r / 2 = 3 := fun z => c1n3 (by rw [z]; rfl)
    have c1n4x : ¬ r / 2 = 4 := fun z => c1n4 (by rw [z]; rfl)
    have c1n5x : ¬ r / 2 = 5 := fun z => c1n5 (by rw [z]; rfl)
    have c1n6x : ¬ r / 2 = 6 := fun z => c1n6 (by rw [z]; rfl)
    simpa [fHeld, c1n0x, c1n1x, c1n2x, c1n3x, c1n4x, c1n5x, c1n6x] using k
set_option maxHeartbeats 4000000 in
set_option maxRecDepth 20000 in
theorem c_put {g : GE} {d : Nat} {w : GW} {Q : Option Value → GW → Prop} (hd : 2 ≤ d) {r : Nat} {i : Int32} {x : UInt64} (hS : SK g w) (hr : r < 18) (hf1 : vf_n32 (FP.d2f x)) (hf2 : vf_n64 (FP.f2d (FP.d2f x))) (k1 : ¬ fUse g w r i = 0 → Q (some (.int (fUse g w r i))) w) (k2 : ∀ j : Nat, j < 16 → i = nI j → fUse g w r i = 0 → Q (some (.int 0)) (setD w (aRd g r) j (fHeld (r / 2) x))) : gM g d mX6_put [.ref (aRow g r), .int i, .double x] w Q := by
  refine gM.of (by decide) (Nat.le_of_ble_eq_true rfl) ?_
  obtain ⟨o1, o2, o3, l2, l3, r2, r3, i1, p1⟩ := hS.row hr
  refine g_aload_n dX6_put_0 rfl ?_
  refine g_iload_n dX6_put_1 rfl ?_
  refine g_iconstV (v := 0) dX6_put_2 (by decide) ?_
  refine g_callV (d1 := d - 1) (As := [_, _]) 6 dX6_put_3 vX6_26 (by omega) (by assumption) rfl rfl (Nat.le_of_ble_eq_true rfl) ?_
  refine c_faultOfUse hS hr ?_
  refine g_istore dX6_put_6 (by decide) rfl ?_
  refine g_iload dX6_put_8 rfl ?_
  refine g_if_ne 24 dX6_put_10 (by decide) (fun c1 => ?_) (fun c1 => ?_)
  · refine g_iload dX6_put_24 rfl ?_
    refine g_iret dX6_put_26 rfl ?_
    first
      | exact k1 c1
      | (rw [c1]; exact k2 j hj rfl c1)
  · obtain ⟨j, hj, rfl, -, -⟩ := fFaultAt_0 (fUse_0 c1)
    have hj8 : j < gL w (aRd g r) := by rw [l2]; exact hj
    have hj9 : j < gL w (aRz g r) := by rw [l3]; exact hj
    have hji : nI j = nI j := rfl
    have hcj : (nI j).toNatClampNeg = j := nI_clamp (by omega)
    refine g_aload_n dX6_put_13 rfl ?_
    refine g_getR 6 1 385 dX6_put_14 fX6_13 rfl rfl (by assumption) (by assumption) ?_
    refine g_iload_n dX6_put_17 rfl ?_
    refine g_aload_n dX6_put_18 rfl ?_
    refine g_dload_n dX6_put_19 rfl ?_
    refine g_callV (d1 := d - 1) (As := [_]) 6 dX6_put_20 vX6_30 (by omega) (by assumption) rfl rfl (Nat.le_of_ble_eq_true rfl) ?_
    refine c_asHeld hS hr hf1 hf2 ?_
    refine g_dast dX6_put_23 (by assumption) (by assumption) (by assumption) ?_
    refine g_iload dX6_put_24 rfl ?_
    refine g_iret dX6_put_26 rfl ?_
    first
      | exact k1 c1
      | (rw [c1]; exact k2 j hj rfl c1)
set_option maxHeartbeats 4000000 in
set_option maxRecDepth 20000 in
theorem c_fit {g : GE} {d : Nat} {w : GW} {Q : Option Value → GW → Prop} (hd : 1 ≤ d) {r : Nat} {i : Int32} (hS : SK g w) (hr : r < 18) (k1 : ¬ fFaultAt (rowPl g w r) i = 0 → Q (some (.int (fFaultAt (rowPl g w r) i))) w) (k2 : ∀ j : Nat, j < 16 → i = nI j → fFaultAt (rowPl g w r) i = 0 → Q (some (.int 0)) (setA (setD w (aRd g r) j FP.dconst0) (aRz g r) j 1)) : gM g d mX6_fit [.ref (aRow g r), .int i] w Q := by
  refine gM.of (by decide) (Nat.le_of_ble_eq_true rfl) ?_
  obtain ⟨o1, o2, o3, l2, l3, r2, r3, i1, p1⟩ := hS.row hr
  refine g_aload_n dX6_fit_0 rfl ?_
  refine g_iload_n dX6_fit_1 rfl ?_
  refine g_iconstV (v := 1) dX6_fit_2 (by decide) ?_
  refine g_callV (d1 := d - 1) (As := [_, _]) 6 dX6_fit_3 vX6_26 (by omega) (by assumption) rfl rfl (Nat.le_of_ble_eq_true rfl) ?_
  refine c_faultAt hS hr ?_
  refine g_istore_n dX6_fit_6 (by decide) rfl ?_
  refine g_iload_n dX6_fit_7 rfl ?_
  refine g_if_ne 25 dX6_fit_8 (by decide) (fun c1 => ?_) (fun c1 => ?_)
  · refine g_iload_n dX6_fit_25 rfl ?_
    refine g_iret dX6_fit_26 rfl ?_
    first
      | exact k1 c1
      | (rw [c1]; exact k2 j hj rfl c1)
  · obtain ⟨j, hj, rfl, -, -⟩ := fFaultAt_0 c1
    have hj8 : j < gL w (aRd g r) := by rw [l2]; exact hj
    have hj9 : j < gL w (aRz g r) := by rw [l3]; exact hj
    have hji : nI j = nI j := rfl
    have hcj : (nI j).toNatClampNeg = j := nI_clamp (by omega)
    refine g_aload_n dX6_fit_11 rfl ?_
    refine g_getR 6 1 385 dX6_fit_12 fX6_13 rfl rfl (by assumption) (by assumption) ?_
    refine g_iload_n dX6_fit_15 rfl ?_
    refine g_dconst0 dX6_fit_16 ?_
    refine g_dast dX6_fit_17 (by assumption) (by assumption) (by assumption) ?_
    refine g_aload_n dX6_fit_18 rfl ?_
    refine g_getR 6 2 386 dX6_fit_19 fX6_17 rfl rfl (by assumption) (by assumption) ?_
    refine g_iload_n dX6_fit_22 rfl ?_
    refine g_iconstV (v := 1) dX6_fit_23 (by decide) ?_
    refine g_zast dX6_fit_24 (by assumption) (by assumption) (by assumption) rfl ?_
    refine g_iload_n dX6_fit_25 rfl ?_
    refine g_iret dX6_fit_26 rfl ?_
    first
      | exact k1 c1
      | (rw [c1]; exact k2 j hj rfl c1)
set_option maxHeartbeats 4000000 in
set_option maxRecDepth 20000 in
theorem c_drop {g : GE} {d : Nat} {w : GW} {Q : Option Value → GW → Prop} {r : Nat} (hS : SK g w) (hr : r < 18) (k : Q none (setI w 387 (aRow g r) (-1))) : gM g d mX6_drop [.ref (aRow g r)] w Q := by
  refine gM.of (by decide) (Nat.le_of_ble_eq_true rfl) ?_
  obtain ⟨o1, o2, o3, l2, l3, r2, r3, i1, p1⟩ := hS.row hr
  refine g_aload_n dX6_drop_0 rfl ?_
  refine g_iconstV (v := -1) dX6_drop_1 (by decide) ?_
  refine g_putI 6 3 387 dX6_drop_2 fX6_21 rfl rfl (by assumption) ?_
  refine g_vret dX6_drop_5 rfl ?_
  exact k
def cProbe (g : GE) (w : GW) (r : Nat) (i : Int32) : Int32 := if r / 2 = 8 ∧ fUse g w r i = 0 then 1 else 0
set_option maxHeartbeats 4000000 in
set_option maxRecDepth 20000 in
theorem c_holdsProbe {g : GE} {d : Nat} {w : GW} {Q : Option Value → GW → Prop} (hd : 2 ≤ d) {r : Nat} {i : Int32} (hS : SK g w) (hr : r < 18) (k : Q (some (.int (cProbe g w r i))) w) : gM g d mX6_holdsProbe [.ref (aRow g r), .int i] w Q := by
  refine gM.of (by decide) (Nat.le_of_ble_eq_true rfl) ?_
  obtain ⟨o1, o2, o3, l2, l3, r2, r3, i1, p1⟩ := hS.row hr
  have e8 : gI w 384 (aRow g r) = 8 ↔ r / 2 = 8 := by rw [i1]; exact nI_eq (b := 8) (by omega) (by decide)
  refine g_aload_n dX6_holdsProbe_0 rfl ?_
  refine g_getI 6 0 384 dX6_holdsProbe_1 fX6_7 rfl rfl (by assumption) ?_
  refine g_bipushV (v := 8) dX6_holdsProbe_4 (by decide) ?_
  refine g_icmp_ne 22 dX6_holdsProbe_6 (by decide) (fun c1 => ?_) (fun c1 => ?_)
  · refine g_iconstV (v := 0) dX6_holdsProbe_22 (by decide) ?_
    refine g_zret dX6_holdsProbe_23 rfl rfl ?_
    rw [e8] at c1
    simpa [cProbe, c1] using k
  · refine g_aload_n dX6_holdsProbe_9 rfl ?_
    refine g_iload_n dX6_holdsProbe_10 rfl ?_
    refine g_iconstV (v := 0) dX6_holdsProbe_11 (by decide) ?_
    refine g_callV (d1 := d - 1) (As := [_, _]) 6 dX6_holdsProbe_12 vX6_26 (by omega) (by assumption) rfl rfl (Nat.le_of_ble_eq_true rfl) ?_
    refine c_faultOfUse hS hr ?_
    refine g_if_ne 22 dX6_holdsProbe_15 (by decide) (fun c2 => ?_) (fun c2 => ?_)
    · refine g_iconstV (v := 0) dX6_holdsProbe_22 (by decide) ?_
      refine g_zret dX6_holdsProbe_23 rfl rfl ?_
      rw [e8] at c1
      simpa [cProbe, c1, c2] using k
    · refine g_iconstV (v := 1) dX6_holdsProbe_18 (by decide) ?_
      refine g_goto 23 dX6_holdsProbe_19 (by decide) ?_
      refine g_zret dX6_holdsProbe_23 rfl rfl ?_
      rw [e8] at c1
      simpa [cProbe, c1, c2] using k
