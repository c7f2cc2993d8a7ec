theorem zero_cmp {y : UInt64} (h : FP.Core.DZero y) : FP.dcmp y FP.dconst0 = some .eq := by
  obtain ⟨s, q, e⟩ := h
  show FP.Core.order (FP.Core.val64 y) (FP.Core.val64 FP.dconst0) = _
  rw [e, show FP.Core.val64 FP.dconst0 = _ from FP.Core.val64_dconst0]
  simp [FP.Core.order, FP.Core.inUnits, FP.Core.signed]
theorem nz_of {y : UInt64} (h : ¬ FP.dcmp y FP.dconst0 = some .eq) : ¬ FP.Core.DZero y := fun z => h (zero_cmp z)
theorem nn_rem {a b : UInt64} (ha : DF a) (hb : DF b) (h0 : ¬ FP.Core.DZero b) : vf_n64 (FP.drem a b) := by
  refine n64 ?_
  obtain ⟨s, c, q, e⟩ := ha
  obtain ⟨t, d, r, e2⟩ := hb
  have hd : ¬ d = 0 := fun z => h0 ⟨t, r, by rw [e2, z]⟩
  rw [FP.Core.val64_drem, e, e2]
  exact fun h => by have := FP.Core.round_nan.mp h; simp [FP.Core.exactRemainder, hd] at this
theorem DF_one_mag : FP.dconst1.toNat % 2 ^ 63 < 1088 * 2 ^ 52 := by decide
theorem DF_l2d_sub (a : Int64) : DF (FP.dsub (FP.l2d a) FP.dconst1) := FP.Core.fin_of_lt (FP.Core.dsub_mag (FP.Core.l2d_mag a) DF_one_mag (by decide)) (by decide)
theorem DF_l2d_add (a : Int64) : DF (FP.dadd (FP.l2d a) FP.dconst1) := FP.Core.fin_of_lt (FP.Core.dadd_mag (FP.Core.l2d_mag a) DF_one_mag (by decide)) (by decide)
/-! the model's sums -/
def mSigned (x : UInt64) (b : Int32) : UInt64 := if sMin x = b then x else FP.dneg x
def mSigned0 (x y : UInt64) : UInt64 := if FP.dcmp x FP.dconst0 = some .eq then mSigned x (sMin y) else x
def mLower (y : UInt64) : UInt64 := mSigned0 (if FP.dcmp (FP.l2d (FP.d2l y)) y = some .gt then FP.dsub (FP.l2d (FP.d2l y)) FP.dconst1 else FP.l2d (FP.d2l y)) y
def mUpper (y : UInt64) : UInt64 := mSigned0 (if FP.dcmp (FP.l2d (FP.d2l y)) y = some .lt then FP.dadd (FP.l2d (FP.d2l y)) FP.dconst1 else FP.l2d (FP.d2l y)) y
def dHalf : UInt64 := 4602678819172646912
def mUp (y : UInt64) : Prop := FP.dcmp (FP.dsub y (mLower y)) dHalf = some .gt ∨ (FP.dcmp (FP.dsub y (mLower y)) dHalf = some .eq ∧ ¬ FP.d2l (mLower y) - FP.d2l (mLower y) / 2 * 2 = 0)
theorem DF_signed {x : UInt64} (h : DF x) (b : Int32) : DF (mSigned x b) := by
  unfold mSigned
  split
  · exact h
  · exact DF_neg h
theorem DF_signed0 {x : UInt64} (h : DF x) (y : UInt64) : DF (mSigned0 x y) := by
  unfold mSigned0
  split
  · exact DF_signed h _
  · exact h
theorem DF_lower (y : UInt64) : DF (mLower y) := by
  unfold mLower
  refine DF_signed0 ?_ y
  split
  · exact DF_l2d_sub _
  · exact DF_l2d _

set_option maxHeartbeats 4000000 in
set_option maxRecDepth 20000 in
theorem m_isMinusNumber {g : GE} {d : Nat} {w : GW} {Q : Option Value → GW → Prop} {x : UInt64} (hx : DF x) (k : Q (some (.int (sMin x))) w) : gM g d mX10_isMinusNumber [.double x] w Q := by
  refine gM.of (by decide) (Nat.le_of_ble_eq_true rfl) ?_
  refine g_dload_n dX10_isMinusNumber_0 rfl ?_
  refine g_dconst0 dX10_isMinusNumber_1 ?_
  refine g_dcmp dX10_isMinusNumber_2 ?_
  refine g_if_lt 20 dX10_isMinusNumber_3 (by decide) (fun c1 => ?_) (fun c1 => ?_)
  · refine g_iconstV (v := 1) dX10_isMinusNumber_20 (by decide) ?_
    refine g_goto 25 dX10_isMinusNumber_21 (by decide) ?_
    refine g_zret dX10_isMinusNumber_25 rfl rfl ?_
    simp only [cv_gtl, cv_gtg, cv_lel, cv_gel, cv_geg, cv_ltl, cv_ltg, cv_leg, cv_eql, cv_eqg, Classical.not_not] at c1
    simpa [sMin, c1] using k
  · refine g_dload_n dX10_isMinusNumber_6 rfl ?_
    refine g_dconst0 dX10_isMinusNumber_7 ?_
    refine g_dcmp dX10_isMinusNumber_8 ?_
    refine g_if_ne 24 dX10_isMinusNumber_9 (by decide) (fun c2 => ?_) (fun c2 => ?_)
    · refine g_iconstV (v := 0) dX10_isMinusNumber_24 (by decide) ?_
      refine g_zret dX10_isMinusNumber_25 rfl rfl ?_
      simp only [cv_gtl, cv_gtg, cv_lel, cv_gel, cv_geg, cv_ltl, cv_ltg, cv_leg, cv_eql, cv_eqg, Classical.not_not] at c1 c2
      simpa [sMin, c1, c2] using k
    · refine g_dconst1 dX10_isMinusNumber_12 ?_
      refine g_dload_n dX10_isMinusNumber_13 rfl ?_
      refine g_ddiv dX10_isMinusNumber_14 (nn_inv hx) ?_
      refine g_dconst0 dX10_isMinusNumber_15 ?_
      refine g_dcmp dX10_isMinusNumber_16 ?_
      refine g_if_ge 24 dX10_isMinusNumber_17 (by decide) (fun c3 => ?_) (fun c3 => ?_)
      · refine g_iconstV (v := 0) dX10_isMinusNumber_24 (by decide) ?_
        refine g_zret dX10_isMinusNumber_25 rfl rfl ?_
        simp only [cv_gtl, cv_gtg, cv_lel, cv_gel, cv_geg, cv_ltl, cv_ltg, cv_leg, cv_eql, cv_eqg, Classical.not_not] at c1 c2 c3
        simpa [sMin, c1, c2, c3] using k
      · refine g_iconstV (v := 1) dX10_isMinusNumber_20 (by decide) ?_
        refine g_goto 25 dX10_isMinusNumber_21 (by decide) ?_
        refine g_zret dX10_isMinusNumber_25 rfl rfl ?_
        simp only [cv_gtl, cv_gtg, cv_lel, cv_gel, cv_geg, cv_ltl, cv_ltg, cv_leg, cv_eql, cv_eqg, Classical.not_not] at c1 c2 c3
        simpa [sMin, c1, c2, c3] using k
set_option maxHeartbeats 4000000 in
set_option maxRecDepth 20000 in
theorem m_signed {g : GE} {d : Nat} {w : GW} {Q : Option Value → GW → Prop} (hd : 1 ≤ d) {x : UInt64} {b : Int32} (hx : DF x) (k : Q (some (.double (mSigned x b))) w) : gM g d mX10_signed [.double x, .int b] w Q := by
  refine gM.of (by decide) (Nat.le_of_ble_eq_true rfl) ?_
  refine g_dload_n dX10_signed_0 rfl ?_
  refine g_callS (d1 := d - 1) (As := [_]) dX10_signed_1 sX10_272 (by omega) rfl rfl (Nat.le_of_ble_eq_true rfl) ?_
  refine m_isMinusNumber hx ?_
  refine g_iload_n dX10_signed_4 rfl ?_
  refine g_icmp_ne 12 dX10_signed_5 (by decide) (fun c1 => ?_) (fun c1 => ?_)
  · refine g_dload_n dX10_signed_12 rfl ?_
    refine g_dneg dX10_signed_13 ?_
    refine g_dret dX10_signed_14 rfl ?_
    simpa [mSigned, c1] using k
  · refine g_dload_n dX10_signed_8 rfl ?_
    refine g_goto 14 dX10_signed_9 (by decide) ?_
    refine g_dret dX10_signed_14 rfl ?_
    simpa [mSigned, c1] using k
set_option maxHeartbeats 4000000 in
set_option maxRecDepth 20000 in
theorem m_signed0 {g : GE} {d : Nat} {w : GW} {Q : Option Value → GW → Prop} (hd : 2 ≤ d) {x y : UInt64} (hx : DF x) (hy : DF y) (k : Q (some (.double (mSigned0 x y))) w) : gM g d mX10_signed0 [.double x, .double y] w Q := by
  refine gM.of (by decide) (Nat.le_of_ble_eq_true rfl) ?_
  refine g_dload_n dX10_signed0_0 rfl ?_
  refine g_dconst0 dX10_signed0_1 ?_
  refine g_dcmp dX10_signed0_2 ?_
  refine g_if_ne 17 dX10_signed0_3 (by decide) (fun c1 => ?_) (fun c1 => ?_)
  · refine g_dload_n dX10_signed0_17 rfl ?_
    refine g_dret dX10_signed0_18 rfl ?_
    simp only [cv_gtl, cv_gtg, cv_lel, cv_gel, cv_geg, cv_ltl, cv_ltg, cv_leg, cv_eql, cv_eqg, Classical.not_not] at c1
    simpa [mSigned0, c1] using k
  · refine g_dload_n dX10_signed0_6 rfl ?_
    refine g_dload_n dX10_signed0_7 rfl ?_
    refine g_callS (d1 := d - 1) (As := [_]) dX10_signed0_8 sX10_272 (by omega) rfl rfl (Nat.le_of_ble_eq_true rfl) ?_
    refine m_isMinusNumber hy ?_
    refine g_callS (d1 := d - 1) (As := [_, _]) dX10_signed0_11 sX10_280 (by omega) rfl rfl (Nat.le_of_ble_eq_true rfl) ?_
    refine m_signed (by omega) hx ?_
    refine g_goto 18 dX10_signed0_14 (by decide) ?_
    refine g_dret dX10_signed0_18 rfl ?_
    simp only [cv_gtl, cv_gtg, cv_lel, cv_gel, cv_geg, cv_ltl, cv_ltg, cv_leg, cv_eql, cv_eqg, Classical.not_not] at c1
    simpa [mSigned0, c1] using k
set_option maxHeartbeats 4000000 in
set_option maxRecDepth 20000 in
theorem m_lower {g : GE} {d : Nat} {w : GW} {Q : Option Value → GW → Prop} (hd : 3 ≤ d) {y : UInt64} (hy : DF y) (k : Q (some (.double (mLower y))) w) : gM g d mX10_lower [.double y] w Q := by
  refine gM.of (by decide) (Nat.le_of_ble_eq_true rfl) ?_
  refine g_dload_n dX10_lower_0 rfl ?_
  refine g_d2l dX10_lower_1 ?_
  refine g_l2d dX10_lower_2 ?_
  refine g_dstore_n dX10_lower_3 (by decide) rfl ?_
  refine g_dload_n dX10_lower_4 rfl ?_
  refine g_dload_n dX10_lower_5 rfl ?_
  refine g_dcmp dX10_lower_6 ?_
  refine g_if_le 16 dX10_lower_7 (by decide) (fun c1 => ?_) (fun c1 => ?_)
  · refine g_dload_n dX10_lower_16 rfl ?_
    refine g_dload_n dX10_lower_17 rfl ?_
    refine g_callS (d1 := d - 1) (As := [_, _]) dX10_lower_18 sX10_276 (by omega) rfl rfl (Nat.le_of_ble_eq_true rfl) ?_
    refine m_signed0 (by omega) (DF_l2d _) hy ?_
    refine g_dret dX10_lower_21 rfl ?_
    simp only [cv_gtl, cv_gtg, cv_lel, cv_gel, cv_geg, cv_ltl, cv_ltg, cv_leg, cv_eql, cv_eqg, Classical.not_not] at c1
    simpa [mLower, c1] using k
  · refine g_dload_n dX10_lower_10 rfl ?_
    refine g_dconst1 dX10_lower_11 ?_
    refine g_dsub dX10_lower_12 (nn_sub (DF_l2d _) DF_one) ?_
    refine g_goto 17 dX10_lower_13 (by decide) ?_
    refine g_dload_n dX10_lower_17 rfl ?_
    refine g_callS (d1 := d - 1) (As := [_, _]) dX10_lower_18 sX10_276 (by omega) rfl rfl (Nat.le_of_ble_eq_true rfl) ?_
    refine m_signed0 (by omega) (DF_l2d_sub _) hy ?_
    refine g_dret dX10_lower_21 rfl ?_
    simp only [cv_gtl, cv_gtg, cv_lel, cv_gel, cv_geg, cv_ltl, cv_ltg, cv_leg, cv_eql, cv_eqg, Classical.not_not] at c1
    simpa [mLower, c1] using k
set_option maxHeartbeats 4000000 in
set_option maxRecDepth 20000 in
theorem m_upper {g : GE} {d : Nat} {w : GW} {Q : Option Value → GW → Prop} (hd : 3 ≤ d) {y : UInt64} (hy : DF y) (k : Q (some (.double (mUpper y))) w) : gM g d mX10_upper [.double y] w Q := by
  refine gM.of (by decide) (Nat.le_of_ble_eq_true rfl) ?_
  refine g_dload_n dX10_upper_0 rfl ?_
  refine g_d2l dX10_upper_1 ?_
  refine g_l2d dX10_upper_2 ?_
  refine g_dstore_n dX10_upper_3 (by decide) rfl ?_
  refine g_dload_n dX10_upper_4 rfl ?_
  refine g_dload_n dX10_upper_5 rfl ?_
  refine g_dcmp dX10_upper_6 ?_
  refine g_if_ge 16 dX10_upper_7 (by decide) (fun c1 => ?_) (fun c1 => ?_)
  · refine g_dload_n dX10_upper_16 rfl ?_
    refine g_dload_n dX10_upper_17 rfl ?_
    refine g_callS (d1 := d - 1) (As := [_, _]) dX10_upper_18 sX10_276 (by omega) rfl rfl (Nat.le_of_ble_eq_true rfl) ?_
    refine m_signed0 (by omega) (DF_l2d _) hy ?_
    refine g_dret dX10_upper_21 rfl ?_
    simp only [cv_gtl, cv_gtg, cv_lel, cv_gel, cv_geg, cv_ltl, cv_ltg, cv_leg, cv_eql, cv_eqg, Classical.not_not] at c1
    simpa [mUpper, c1] using k
  · refine g_dload_n dX10_upper_10 rfl ?_
    refine g_dconst1 dX10_upper_11 ?_
    refine g_dadd dX10_upper_12 (nn_add (DF_l2d _) DF_one) ?_
    refine g_goto 17 dX10_upper_13 (by decide) ?_
    refine g_dload_n dX10_upper_17 rfl ?_
    refine g_callS (d1 := d - 1) (As := [_, _]) dX10_upper_18 sX10_276 (by omega) rfl rfl (Nat.le_of_ble_eq_true rfl) ?_
    refine m_signed0 (by omega) (DF_l2d_add _) hy ?_
    refine g_dret dX10_upper_21 rfl ?_
    simp only [cv_gtl, cv_gtg, cv_lel, cv_gel, cv_geg, cv_ltl, cv_ltg, cv_leg, cv_eql, cv_eqg, Classical.not_not] at c1
    simpa [mUpper, c1] using k
set_option maxHeartbeats 4000000 in
set_option maxRecDepth 20000 in
theorem m_nearest {g : GE} {d : Nat} {w : GW} {Q : Option Value → GW → Prop} (hd : 4 ≤ d) {y : UInt64} (hy : DF y) (h1 : DF (FP.dadd (mLower y) FP.dconst1)) (k1 : mUp y → Q (some (.double (mSigned0 (FP.dadd (mLower y) FP.dconst1) y))) w) (k2 : ¬ mUp y → Q (some (.double (mSigned0 (mLower y) y))) w) : gM g d mX10_nearest [.double y] w Q := by
  refine gM.of (by decide) (Nat.le_of_ble_eq_true rfl) ?_
  refine g_dload_n dX10_nearest_0 rfl ?_
  refine g_callS (d1 := d - 1) (As := [_]) dX10_nearest_1 sX10_284 (by omega) rfl rfl (Nat.le_of_ble_eq_true rfl) ?_
  refine m_lower (by omega) hy ?_
  refine g_dstore_n dX10_nearest_4 (by decide) rfl ?_
  refine g_dload_n dX10_nearest_5 rfl ?_
  refine g_dload_n dX10_nearest_6 rfl ?_
  refine g_dsub dX10_nearest_7 (nn_sub hy (DF_lower y)) ?_
  refine g_dstore dX10_nearest_8 (by decide) rfl ?_
  refine g_dload dX10_nearest_10 rfl ?_
  refine g_ldc2d dX10_nearest_12 qX10_288 ?_
  refine g_dcmp dX10_nearest_15 ?_
  refine g_if_gt 39 dX10_nearest_16 (by decide) (fun c1 => ?_) (fun c1 => ?_)
  · refine g_iconstV (v := 1) dX10_nearest_39 (by decide) ?_
    refine g_goto 44 dX10_nearest_40 (by decide) ?_
    refine g_istore dX10_nearest_44 (by decide) rfl ?_
    refine g_iload dX10_nearest_46 rfl ?_
    refine g_if_eq 57 dX10_nearest_48 (by decide) (fun q => absurd q (by decide)) (fun _ => ?_)
    refine g_dload_n dX10_nearest_51 rfl ?_
    refine g_dconst1 dX10_nearest_52 ?_
    refine g_dadd dX10_nearest_53 (nn_add (DF_lower y) DF_one) ?_
    refine g_goto 58 dX10_nearest_54 (by decide) ?_
    refine g_dload_n dX10_nearest_58 rfl ?_
    refine g_callS (d1 := d - 1) (As := [_, _]) dX10_nearest_59 sX10_276 (by omega) rfl rfl (Nat.le_of_ble_eq_true rfl) ?_
    refine m_signed0 (by omega) h1 hy ?_
    refine g_dret dX10_nearest_62 rfl ?_
    exact k1 (Or.inl ((cv_gtl _).mp c1))
  · refine g_dload dX10_nearest_19 rfl ?_
    refine g_ldc2d dX10_nearest_21 qX10_288 ?_
    refine g_dcmp dX10_nearest_24 ?_
    refine g_if_ne 43 dX10_nearest_25 (by decide) (fun c2 => ?_) (fun c2 => ?_)
    · refine g_iconstV (v := 0) dX10_nearest_43 (by decide) ?_
      refine g_istore dX10_nearest_44 (by decide) rfl ?_
      refine g_iload dX10_nearest_46 rfl ?_
      refine g_if_eq 57 dX10_nearest_48 (by decide) (fun _ => ?_) (fun q => absurd rfl q)
      refine g_dload_n dX10_nearest_57 rfl ?_
      refine g_dload_n dX10_nearest_58 rfl ?_
      refine g_callS (d1 := d - 1) (As := [_, _]) dX10_nearest_59 sX10_276 (by omega) rfl rfl (Nat.le_of_ble_eq_true rfl) ?_
      refine m_signed0 (by omega) (DF_lower y) hy ?_
      refine g_dret dX10_nearest_62 rfl ?_
      exact k2 (fun z => z.elim (fun z => c1 ((cv_gtl _).mpr z)) (fun z => c2 ((cv_eql _).mpr z.1)))
    · refine g_dload_n dX10_nearest_28 rfl ?_
      refine g_d2l dX10_nearest_29 ?_
      refine g_ldc2l dX10_nearest_30 qX10_290 ?_
      refine g_lrem dX10_nearest_33 (by decide) ?_
      refine g_lconstV (v := 0) dX10_nearest_34 (by decide) ?_
      refine g_lcmp dX10_nearest_35 ?_
      refine g_if_eq 43 dX10_nearest_36 (by decide) (fun c3 => ?_) (fun c3 => ?_)
      · refine g_iconstV (v := 0) dX10_nearest_43 (by decide) ?_
        refine g_istore dX10_nearest_44 (by decide) rfl ?_
        refine g_iload dX10_nearest_46 rfl ?_
        refine g_if_eq 57 dX10_nearest_48 (by decide) (fun _ => ?_) (fun q => absurd rfl q)
        refine g_dload_n dX10_nearest_57 rfl ?_
        refine g_dload_n dX10_nearest_58 rfl ?_
        refine g_callS (d1 := d - 1) (As := [_, _]) dX10_nearest_59 sX10_276 (by omega) rfl rfl (Nat.le_of_ble_eq_true rfl) ?_
        refine m_signed0 (by omega) (DF_lower y) hy ?_
        refine g_dret dX10_nearest_62 rfl ?_
        exact k2 (fun z => z.elim (fun z => c1 ((cv_gtl _).mpr z)) (fun z => z.2 ((lg0 _).mp c3)))
      · refine g_iconstV (v := 1) dX10_nearest_39 (by decide) ?_
        refine g_goto 44 dX10_nearest_40 (by decide) ?_
        refine g_istore dX10_nearest_44 (by decide) rfl ?_
        refine g_iload dX10_nearest_46 rfl ?_
        refine g_if_eq 57 dX10_nearest_48 (by decide) (fun q => absurd q (by decide)) (fun _ => ?_)
        refine g_dload_n dX10_nearest_51 rfl ?_
        refine g_dconst1 dX10_nearest_52 ?_
        refine g_dadd dX10_nearest_53 (nn_add (DF_lower y) DF_one) ?_
        refine g_goto 58 dX10_nearest_54 (by decide) ?_
        refine g_dload_n dX10_nearest_58 rfl ?_
        refine g_callS (d1 := d - 1) (As := [_, _]) dX10_nearest_59 sX10_276 (by omega) rfl rfl (Nat.le_of_ble_eq_true rfl) ?_
        refine m_signed0 (by omega) h1 hy ?_
        refine g_dret dX10_nearest_62 rfl ?_
        exact k1 (Or.inr ⟨(cv_eql _).mp c2, fun z => c3 ((lg0 _).mpr z)⟩)
