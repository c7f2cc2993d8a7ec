/-! ===== doubles: no NaN comes ===== -/
theorem n64 {x : UInt64} (h : FP.Core.val64 x ≠ .nan) : vf_n64 x := by
  have h1 := (FP.Core.ne_nan x).mp h
  unfold vf_n64
  rw [UInt64.le_iff_toNat_le, UInt64.toNat_and]
  have e : (0x7fffffffffffffff : UInt64).toNat = 2 ^ 63 - 1 := by decide
  rw [e, Nat.and_two_pow_sub_one_eq_mod]
  exact h1
theorem n32 {x : UInt32} (h : FP.Core.val32 x ≠ .nan) : vf_n32 x := by
  have h1 := (FP.Core.ne_nan32 x).mp h
  unfold vf_n32
  rw [UInt32.le_iff_toNat_le, UInt32.toNat_and]
  have e : (0x7fffffff : UInt32).toNat = 2 ^ 31 - 1 := by decide
  rw [e, Nat.and_two_pow_sub_one_eq_mod]
  exact h1
abbrev DF (x : UInt64) : Prop := FP.Core.DFin x
abbrev FF (x : UInt32) : Prop := FP.Core.FFin x
theorem DF.nn {x : UInt64} (h : DF x) : FP.Core.val64 x ≠ .nan := by
  obtain ⟨s, c, q, e⟩ := h
  rw [e]
  exact fun h => by cases h
theorem FF.nn {x : UInt32} (h : FF x) : FP.Core.val32 x ≠ .nan := by
  obtain ⟨s, c, q, e⟩ := h
  rw [e]
  exact fun h => by cases h
theorem nn_add {a b : UInt64} (ha : DF a) (hb : DF b) : vf_n64 (FP.dadd a b) := by
  refine n64 ?_
  obtain ⟨s, c, q, e⟩ := ha
  obtain ⟨t, d, r, e2⟩ := hb
  rw [FP.Core.val64_dadd, e, e2]
  exact fun h => by have := FP.Core.round_nan.mp h; cases this
theorem nn_sub {a b : UInt64} (ha : DF a) (hb : DF b) : vf_n64 (FP.dsub a b) := by
  refine n64 ?_
  obtain ⟨s, c, q, e⟩ := ha
  obtain ⟨t, d, r, e2⟩ := hb
  rw [FP.Core.val64_dsub, e, e2]
  exact fun h => by have := FP.Core.round_nan.mp h; cases this
theorem nn_mul {a b : UInt64} (ha : DF a) (hb : DF b) : vf_n64 (FP.dmul a b) := by
  refine n64 ?_
  obtain ⟨s, c, q, e⟩ := ha
  obtain ⟨t, d, r, e2⟩ := hb
  rw [FP.Core.val64_dmul, e, e2]
  exact fun h => by have := FP.Core.round_nan.mp h; cases this
theorem nn_div {a b : UInt64} (ha : DF a) (hb : DF b) (h0 : ¬ (FP.Core.DZero a ∧ FP.Core.DZero b)) : vf_n64 (FP.ddiv a b) := by
  refine n64 ?_
  obtain ⟨s, c, q, e⟩ := ha
  obtain ⟨t, d, r, e2⟩ := hb
  rw [FP.Core.val64_ddiv, e, e2]
  unfold FP.Core.quotient
  by_cases hd : d = 0
  · by_cases hc : c = 0
    · subst hd; subst hc; exact absurd ⟨⟨_, _, e⟩, ⟨_, _, e2⟩⟩ h0
    · simp [hd, hc]
  · simp only [if_neg hd]
    exact FP.Core.roundRatio_ne_nan _ _ _ _ _
theorem DF_one : DF FP.dconst1 := ⟨_, _, _, FP.Core.val64_dconst1⟩
theorem DF_zero : DF FP.dconst0 := ⟨_, _, _, FP.Core.val64_dconst0⟩
theorem one_nz : ¬ FP.Core.DZero FP.dconst1 := fun ⟨s, q, e⟩ => by rw [show FP.Core.val64 FP.dconst1 = _ from FP.Core.val64_dconst1] at e; cases e
theorem nn_inv {x : UInt64} (h : DF x) : vf_n64 (FP.ddiv FP.dconst1 x) := nn_div DF_one h (fun q => one_nz q.1)
theorem DF_neg {x : UInt64} (h : DF x) : DF (FP.dneg x) := by
  obtain ⟨s, c, q, e⟩ := h
  exact ⟨!s, c, q, by rw [FP.val64_dneg, e]; rfl⟩
theorem DF_l2d (x : Int64) : DF (FP.l2d x) := FP.Core.l2d_fin x
theorem DF_i2d (x : Int32) : DF (FP.i2d x) := FP.Core.i2d_fin x
/-! ===== Sums ===== -/
/-- Sums.hasMinus, and the model's isMinusNumber -/
def sMin (x : UInt64) : Int32 := if FP.dcmp x FP.dconst0 = some .lt then 1 else if FP.dcmp x FP.dconst0 = some .eq then (if FP.dcmp (FP.ddiv FP.dconst1 x) FP.dconst0 = some .lt then 1 else 0) else 0
def sLess (x y : UInt64) : Int32 := if FP.dcmp x y = some .lt then 1 else if FP.dcmp x y = some .eq then sMin x else 0
/-- Sums.isLess -/
def sLess2 (x y : UInt64) : Int32 := if FP.dcmp x y = some .lt then 1 else if FP.dcmp x y = some .eq then (if FP.dcmp (FP.ddiv FP.dconst1 x) FP.dconst0 = some .lt then 1 else 0) else 0
def sWith (x y : UInt64) : UInt64 := if sMin x = sMin y then x else FP.dneg x
def sBelow (y : UInt64) : UInt64 := if FP.dcmp y FP.dconst0 = some .eq then y else if FP.dcmp (FP.l2d (FP.d2l y)) y = some .gt then FP.dsub (FP.l2d (FP.d2l y)) FP.dconst1 else FP.l2d (FP.d2l y)
theorem sMin_01 (x : UInt64) : sMin x = 0 ∨ sMin x = 1 := by
  unfold sMin
  split
  · exact Or.inr rfl
  · split
    · split
      · exact Or.inr rfl
      · exact Or.inl rfl
    · exact Or.inl rfl
theorem sLess_01 (x y : UInt64) : sLess x y = 0 ∨ sLess x y = 1 := by
  unfold sLess
  split
  · exact Or.inr rfl
  · split
    · exact sMin_01 x
    · exact Or.inl rfl
theorem zb_of {x : Int32} (h : x = 0 ∨ x = 1) : narrow .boolean (.int x) = .int x := by rcases h with rfl | rfl <;> rfl
set_option maxHeartbeats 4000000 in
set_option maxRecDepth 20000 in
theorem c_hasMinus {g : GE} {d : Nat} {w : GW} {Q : Option Value → GW → Prop} {x : UInt64} (hx : DF x) (k : Q (some (.int (sMin x))) w) : gM g d mX8_hasMinus [.double x] w Q := by
  refine gM.of (by decide) (Nat.le_of_ble_eq_true rfl) ?_
  refine g_dload_n dX8_hasMinus_0 rfl ?_
  refine g_dconst0 dX8_hasMinus_1 ?_
  refine g_dcmp dX8_hasMinus_2 ?_
  refine g_if_lt 20 dX8_hasMinus_3 (by decide) (fun c1 => ?_) (fun c1 => ?_)
  · refine g_iconstV (v := 1) dX8_hasMinus_20 (by decide) ?_
    refine g_goto 25 dX8_hasMinus_21 (by decide) ?_
    refine g_zret dX8_hasMinus_25 rfl rfl ?_
    simp only [cv_gtl, cv_gtg, cv_lel, cv_gel, cv_geg, cv_ltl, cv_ltg, cv_leg, cv_eql, cv_eqg, Classical.not_not] at c1
    simpa [sMin, c1] using k
  · refine g_dload_n dX8_hasMinus_6 rfl ?_
    refine g_dconst0 dX8_hasMinus_7 ?_
    refine g_dcmp dX8_hasMinus_8 ?_
    refine g_if_ne 24 dX8_hasMinus_9 (by decide) (fun c2 => ?_) (fun c2 => ?_)
    · refine g_iconstV (v := 0) dX8_hasMinus_24 (by decide) ?_
      refine g_zret dX8_hasMinus_25 rfl rfl ?_
      simp only [cv_gtl, cv_gtg, cv_lel, cv_gel, cv_geg, cv_ltl, cv_ltg, cv_leg, cv_eql, cv_eqg, Classical.not_not] at c1 c2
      simpa [sMin, c1, c2] using k
    · refine g_dconst1 dX8_hasMinus_12 ?_
      refine g_dload_n dX8_hasMinus_13 rfl ?_
      refine g_ddiv dX8_hasMinus_14 (nn_inv hx) ?_
      refine g_dconst0 dX8_hasMinus_15 ?_
      refine g_dcmp dX8_hasMinus_16 ?_
      refine g_if_ge 24 dX8_hasMinus_17 (by decide) (fun c3 => ?_) (fun c3 => ?_)
      · refine g_iconstV (v := 0) dX8_hasMinus_24 (by decide) ?_
        refine g_zret dX8_hasMinus_25 rfl rfl ?_
        simp only [cv_gtl, cv_gtg, cv_lel, cv_gel, cv_geg, cv_ltl, cv_ltg, cv_leg, cv_eql, cv_eqg, Classical.not_not] at c1 c2 c3
        simpa [sMin, c1, c2, c3] using k
      · refine g_iconstV (v := 1) dX8_hasMinus_20 (by decide) ?_
        refine g_goto 25 dX8_hasMinus_21 (by decide) ?_
        refine g_zret dX8_hasMinus_25 rfl rfl ?_
        simp only [cv_gtl, cv_gtg, cv_lel, cv_gel, cv_geg, cv_ltl, cv_ltg, cv_leg, cv_eql, cv_eqg, Classical.not_not] at c1 c2 c3
        simpa [sMin, c1, c2, c3] using k
set_option maxHeartbeats 4000000 in
set_option maxRecDepth 20000 in
theorem c_isLess {g : GE} {d : Nat} {w : GW} {Q : Option Value → GW → Prop} {x y : UInt64} (hx : DF x) (k : Q (some (.int (sLess2 x y))) w) : gM g d mX8_isLess [.double x, .double y] w Q := by
  refine gM.of (by decide) (Nat.le_of_ble_eq_true rfl) ?_
  refine g_dload_n dX8_isLess_0 rfl ?_
  refine g_dload_n dX8_isLess_1 rfl ?_
  refine g_dcmp dX8_isLess_2 ?_
  refine g_if_lt 20 dX8_isLess_3 (by decide) (fun c1 => ?_) (fun c1 => ?_)
  · refine g_iconstV (v := 1) dX8_isLess_20 (by decide) ?_
    refine g_goto 25 dX8_isLess_21 (by decide) ?_
    refine g_zret dX8_isLess_25 rfl rfl ?_
    simp only [cv_gtl, cv_gtg, cv_lel, cv_gel, cv_geg, cv_ltl, cv_ltg, cv_leg, cv_eql, cv_eqg, Classical.not_not] at c1
    simpa [sLess2, c1] using k
  · refine g_dload_n dX8_isLess_6 rfl ?_
    refine g_dload_n dX8_isLess_7 rfl ?_
    refine g_dcmp dX8_isLess_8 ?_
    refine g_if_ne 24 dX8_isLess_9 (by decide) (fun c2 => ?_) (fun c2 => ?_)
    · refine g_iconstV (v := 0) dX8_isLess_24 (by decide) ?_
      refine g_zret dX8_isLess_25 rfl rfl ?_
      simp only [cv_gtl, cv_gtg, cv_lel, cv_gel, cv_geg, cv_ltl, cv_ltg, cv_leg, cv_eql, cv_eqg, Classical.not_not] at c1 c2
      simpa [sLess2, c1, c2] using k
    · refine g_dconst1 dX8_isLess_12 ?_
      refine g_dload_n dX8_isLess_13 rfl ?_
      refine g_ddiv dX8_isLess_14 (nn_inv hx) ?_
      refine g_dconst0 dX8_isLess_15 ?_
      refine g_dcmp dX8_isLess_16 ?_
      refine g_if_ge 24 dX8_isLess_17 (by decide) (fun c3 => ?_) (fun c3 => ?_)
      · refine g_iconstV (v := 0) dX8_isLess_24 (by decide) ?_
        refine g_zret dX8_isLess_25 rfl rfl ?_
        simp only [cv_gtl, cv_gtg, cv_lel, cv_gel, cv_geg, cv_ltl, cv_ltg, cv_leg, cv_eql, cv_eqg, Classical.not_not] at c1 c2 c3
        simpa [sLess2, c1, c2, c3] using k
      · refine g_iconstV (v := 1) dX8_isLess_20 (by decide) ?_
        refine g_goto 25 dX8_isLess_21 (by decide) ?_
        refine g_zret dX8_isLess_25 rfl rfl ?_
        simp only [cv_gtl, cv_gtg, cv_lel, cv_gel, cv_geg, cv_ltl, cv_ltg, cv_leg, cv_eql, cv_eqg, Classical.not_not] at c1 c2 c3
        simpa [sLess2, c1, c2, c3] using k
/-- Sums.roundsFloats -/
def sRF (s : Int32) : Int32 := if s ≤ 3 then 1 else 0
theorem sRF_1 {s : Int32} (h : ¬ sRF s = 0) : s ≤ 3 := Classical.byContradiction fun z => h (by unfold sRF; rw [if_neg z])
theorem sRF_0 {s : Int32} (h : sRF s = 0) : ¬ s ≤ 3 := fun z => by unfold sRF at h; rw [if_pos z] at h; exact absurd h (by decide)
set_option maxHeartbeats 4000000 in
set_option maxRecDepth 20000 in
theorem c_roundsFloats {g : GE} {d : Nat} {w : GW} {Q : Option Value → GW → Prop} {s : Int32} (k : Q (some (.int (sRF s))) w) : gM g d mX8_roundsFloats [.int s] w Q := by
  refine gM.of (by decide) (Nat.le_of_ble_eq_true rfl) ?_
  refine g_iload_n dX8_roundsFloats_0 rfl ?_
  refine g_iconstV (v := 3) dX8_roundsFloats_1 (by decide) ?_
  refine g_icmp_gt 9 dX8_roundsFloats_2 (by decide) (fun c1 => ?_) (fun c1 => ?_)
  · refine g_iconstV (v := 0) dX8_roundsFloats_9 (by decide) ?_
    refine g_zret dX8_roundsFloats_10 rfl rfl ?_
    unfold sRF at k
    rw [if_neg (Int32.not_le.mpr c1)] at k
    exact k
  · refine g_iconstV (v := 1) dX8_roundsFloats_5 (by decide) ?_
    refine g_goto 10 dX8_roundsFloats_6 (by decide) ?_
    refine g_zret dX8_roundsFloats_10 rfl rfl ?_
    unfold sRF at k
    rw [if_pos (Int32.not_lt.mp c1)] at k
    exact k
set_option maxHeartbeats 4000000 in
set_option maxRecDepth 20000 in
theorem c_wholeBelow {g : GE} {d : Nat} {w : GW} {Q : Option Value → GW → Prop} {y : UInt64} (hy : DF y) (k : Q (some (.double (sBelow y))) w) : gM g d mX8_wholeBelow [.double y] w Q := by
  refine gM.of (by decide) (Nat.le_of_ble_eq_true rfl) ?_
  refine g_dload_n dX8_wholeBelow_0 rfl ?_
  refine g_dconst0 dX8_wholeBelow_1 ?_
  refine g_dcmp dX8_wholeBelow_2 ?_
  refine g_if_ne 8 dX8_wholeBelow_3 (by decide) (fun c1 => ?_) (fun c1 => ?_)
  · refine g_dload_n dX8_wholeBelow_8 rfl ?_
    refine g_d2l dX8_wholeBelow_9 ?_
    refine g_l2d dX8_wholeBelow_10 ?_
    refine g_dstore_n dX8_wholeBelow_11 (by decide) rfl ?_
    refine g_dload_n dX8_wholeBelow_12 rfl ?_
    refine g_dload_n dX8_wholeBelow_13 rfl ?_
    refine g_dcmp dX8_wholeBelow_14 ?_
    refine g_if_le 24 dX8_wholeBelow_15 (by decide) (fun c2 => ?_) (fun c2 => ?_)
    · refine g_dload_n dX8_wholeBelow_24 rfl ?_
      refine g_dret dX8_wholeBelow_25 rfl ?_
      simp only [cv_gtl, cv_gtg, cv_lel, cv_gel, cv_geg, cv_ltl, cv_ltg, cv_leg, cv_eql, cv_eqg, Classical.not_not] at c1 c2
      simpa [sBelow, c1, c2] using k
    · refine g_dload_n dX8_wholeBelow_18 rfl ?_
      refine g_dconst1 dX8_wholeBelow_19 ?_
      refine g_dsub dX8_wholeBelow_20 (nn_sub (DF_l2d _) DF_one) ?_
      refine g_goto 25 dX8_wholeBelow_21 (by decide) ?_
      refine g_dret dX8_wholeBelow_25 rfl ?_
      simp only [cv_gtl, cv_gtg, cv_lel, cv_gel, cv_geg, cv_ltl, cv_ltg, cv_leg, cv_eql, cv_eqg, Classical.not_not] at c1 c2
      simpa [sBelow, c1, c2] using k
  · refine g_dload_n dX8_wholeBelow_6 rfl ?_
    refine g_dret dX8_wholeBelow_7 rfl ?_
    simp only [cv_gtl, cv_gtg, cv_lel, cv_gel, cv_geg, cv_ltl, cv_ltg, cv_leg, cv_eql, cv_eqg, Classical.not_not] at c1
    simpa [sBelow, c1] using k
def sDivides (s : Int32) : Int32 := if s = 3 then 1 else if s = 4 then 1 else 0
set_option maxHeartbeats 4000000 in
set_option maxRecDepth 20000 in
theorem c_divides {g : GE} {d : Nat} {w : GW} {Q : Option Value → GW → Prop} {x : Int32} (k : Q (some (.int (sDivides x))) w) : gM g d mX8_divides [.int x] w Q := by
  refine gM.of (by decide) (Nat.le_of_ble_eq_true rfl) ?_
  refine g_iload_n dX8_divides_0 rfl ?_
  refine g_iconstV (v := 3) dX8_divides_1 (by decide) ?_
  refine g_icmp_eq 10 dX8_divides_2 (by decide) (fun c1 => ?_) (fun c1 => ?_)
  · refine g_iconstV (v := 1) dX8_divides_10 (by decide) ?_
    refine g_goto 15 dX8_divides_11 (by decide) ?_
    refine g_zret dX8_divides_15 rfl rfl ?_
    simpa [sDivides, c1] using k
  · refine g_iload_n dX8_divides_5 rfl ?_
    refine g_iconstV (v := 4) dX8_divides_6 (by decide) ?_
    refine g_icmp_ne 14 dX8_divides_7 (by decide) (fun c2 => ?_) (fun c2 => ?_)
    · refine g_iconstV (v := 0) dX8_divides_14 (by decide) ?_
      refine g_zret dX8_divides_15 rfl rfl ?_
      simpa [sDivides, c1, c2] using k
    · refine g_iconstV (v := 1) dX8_divides_10 (by decide) ?_
      refine g_goto 15 dX8_divides_11 (by decide) ?_
      refine g_zret dX8_divides_15 rfl rfl ?_
      simpa [sDivides, c1, c2] using k
def sWhole (s x y : Int32) : Int32 := if s = 0 then x + y else if s = 1 then x - y else if s = 2 then x * y else if s = 3 then (if y = 0 then 0 else x / y) else if s = 4 then (if y = 0 then 0 else x - x / y * y) else if s = 5 then x &&& y else if s = 6 then x ||| y else x ^^^ y
def sWide (s : Int32) (x y : Int64) : Int64 := if s = 0 then x + y else if s = 1 then x - y else if s = 2 then x * y else if s = 3 then (if y = 0 then 0 else x / y) else if s = 4 then (if y = 0 then 0 else x - x / y * y) else if s = 5 then x &&& y else if s = 6 then x ||| y else x ^^^ y
theorem lg0 (x : Int64) : lg_cmp x 0 = 0 ↔ x = 0 := by
  unfold lg_cmp
  by_cases h : x = 0
  · subst h; decide
  · simp only [h, if_false, iff_false]
    split <;> decide
set_option maxHeartbeats 4000000 in
set_option maxRecDepth 20000 in
theorem c_wide {g : GE} {d : Nat} {w : GW} {Q : Option Value → GW → Prop} {s : Int32} {x y : Int64} (k : Q (some (.long (sWide s x y))) w) : gM g d mX8_wide [.int s, .long x, .long y] w Q := by
  refine gM.of (by decide) (Nat.le_of_ble_eq_true rfl) ?_
  refine g_iload_n dX8_wide_0 rfl ?_
  refine g_tsw dX8_wide_1 [44, 48, 52, 56, 70, 84, 88] 92 (by decide) (by decide) (by decide) (by decide) (by decide) ?_ (fun c1 => ?_)
  · simp only [tswK]
    refine ⟨fun c1 => ?_, fun c1 => ?_, fun c1 => ?_, fun c1 => ?_, fun c1 => ?_, fun c1 => ?_, fun c1 => ?_, trivial⟩
    · replace c1 := c1.trans (by decide : _ = (0 : Int32))
      refine g_lload_n dX8_wide_44 rfl ?_
      refine g_lload_n dX8_wide_45 rfl ?_
      refine g_ladd dX8_wide_46 ?_
      refine g_lret dX8_wide_47 rfl ?_
      try rw [lg0] at c1
      simpa [sWide, c1] using k
    · replace c1 := c1.trans (by decide : _ = (1 : Int32))
      refine g_lload_n dX8_wide_48 rfl ?_
      refine g_lload_n dX8_wide_49 rfl ?_
      refine g_lsub dX8_wide_50 ?_
      refine g_lret dX8_wide_51 rfl ?_
      try rw [lg0] at c1
      simpa [sWide, c1] using k
    · replace c1 := c1.trans (by decide : _ = (2 : Int32))
      refine g_lload_n dX8_wide_52 rfl ?_
      refine g_lload_n dX8_wide_53 rfl ?_
      refine g_lmul dX8_wide_54 ?_
      refine g_lret dX8_wide_55 rfl ?_
      try rw [lg0] at c1
      simpa [sWide, c1] using k
    · replace c1 := c1.trans (by decide : _ = (3 : Int32))
      refine g_lload_n dX8_wide_56 rfl ?_
      refine g_lconstV (v := 0) dX8_wide_57 (by decide) ?_
      refine g_lcmp dX8_wide_58 ?_
      refine g_if_ne 66 dX8_wide_59 (by decide) (fun c2 => ?_) (fun c2 => ?_)
      · refine g_lload_n dX8_wide_66 rfl ?_
        refine g_lload_n dX8_wide_67 rfl ?_
        refine g_ldiv dX8_wide_68 (fun z => c2 ((lg0 _).mpr z)) ?_
        refine g_lret dX8_wide_69 rfl ?_
        try rw [lg0] at c1
        try rw [lg0] at c2
        simpa [sWide, c1, c2] using k
      · refine g_lconstV (v := 0) dX8_wide_62 (by decide) ?_
        refine g_goto 69 dX8_wide_63 (by decide) ?_
        refine g_lret dX8_wide_69 rfl ?_
        try rw [lg0] at c1
        try rw [lg0] at c2
        simpa [sWide, c1, c2] using k
    · replace c1 := c1.trans (by decide : _ = (4 : Int32))
      refine g_lload_n dX8_wide_70 rfl ?_
      refine g_lconstV (v := 0) dX8_wide_71 (by decide) ?_
      refine g_lcmp dX8_wide_72 ?_
      refine g_if_ne 80 dX8_wide_73 (by decide) (fun c3 => ?_) (fun c3 => ?_)
      · refine g_lload_n dX8_wide_80 rfl ?_
        refine g_lload_n dX8_wide_81 rfl ?_
        refine g_lrem dX8_wide_82 (fun z => c3 ((lg0 _).mpr z)) ?_
        refine g_lret dX8_wide_83 rfl ?_
        try rw [lg0] at c1
        try rw [lg0] at c3
        simpa [sWide, c1, c3] using k
      · refine g_lconstV (v := 0) dX8_wide_76 (by decide) ?_
        refine g_goto 83 dX8_wide_77 (by decide) ?_
        refine g_lret dX8_wide_83 rfl ?_
        try rw [lg0] at c1
        try rw [lg0] at c3
        simpa [sWide, c1, c3] using k
    · replace c1 := c1.trans (by decide : _ = (5 : Int32))
      refine g_lload_n dX8_wide_84 rfl ?_
      refine g_lload_n dX8_wide_85 rfl ?_
      refine g_land dX8_wide_86 ?_
      refine g_lret dX8_wide_87 rfl ?_
      try rw [lg0] at c1
      simpa [sWide, c1] using k
    · replace c1 := c1.trans (by decide : _ = (6 : Int32))
      refine g_lload_n dX8_wide_88 rfl ?_
      refine g_lload_n dX8_wide_89 rfl ?_
      refine g_lor dX8_wide_90 ?_
      refine g_lret dX8_wide_91 rfl ?_
      try rw [lg0] at c1
      simpa [sWide, c1] using k
  · have c1n0 := tsw_ne c1 0 (by decide)
    have c1n1 := tsw_ne c1 1 (by decide)
    have c1n2 := tsw_ne c1 2 (by decide)
    have c1n3 := tsw_ne c1 3 (by decide)
    have c1n4 := tsw_ne c1 4 (by decide)
    have c1n5 := tsw_ne c1 5 (by decide)
    have c1n6 := tsw_ne c1 6 (by decide)
    refine g_lload_n dX8_wide_92 rfl ?_
    refine g_lload_n dX8_wide_93 rfl ?_
    refine g_lxor dX8_wide_94 ?_
    refine g_lret dX8_wide_95 rfl ?_
    try rw [lg0] at c1n0
    try rw [lg0] at c1n1
    try rw [lg0] at c1n2
    try rw [lg0] at c1n3
    try rw [lg0] at c1n4
    try rw [lg0] at c1n5
    try rw [lg0] at c1n6
    simpa [sWide, c1n0, c1n1, c1n2, c1n3, c1n4, c1n5, c1n6] using k
theorem i2l_0 (y : Int32) : y.toInt64 = 0 ↔ y = 0 := by
  constructor
  · intro h
    have h2 := congrArg Int64.toInt32 h
    rw [Int32.toInt32_toInt64] at h2
    exact h2.trans rfl
  · intro h
    subst h
    rfl
theorem div_i2l (x y : Int32) : (x.toInt64 / y.toInt64).toInt32 = x / y := by
  by_cases hy : y = -1
  · by_cases hx : x = Int32.minValue
    · subst hx
      subst hy
      decide
    · rw [← Int32.toInt64_div_of_ne_left x y hx, Int32.toInt32_toInt64]
  · rw [← Int32.toInt64_div_of_ne_right x y hy, Int32.toInt32_toInt64]
theorem l2i_0 : (0 : Int64).toInt32 = 0 := rfl
theorem sWhole_wide (s x y : Int32) : (sWide s x.toInt64 y.toInt64).toInt32 = sWhole s x y := by
  unfold sWide sWhole
  simp only [apply_ite Int64.toInt32, Int64.toInt32_add, Int64.toInt32_sub, Int64.toInt32_mul, Int64.toInt32_and, Int64.toInt32_or, Int64.toInt32_xor, Int32.toInt32_toInt64, div_i2l, i2l_0, l2i_0]
set_option maxHeartbeats 4000000 in
set_option maxRecDepth 20000 in
theorem c_whole {g : GE} {d : Nat} {w : GW} {Q : Option Value → GW → Prop} (hd : 1 ≤ d) {s x y : Int32} (k : Q (some (.int (sWhole s x y))) w) : gM g d mX8_whole [.int s, .int x, .int y] w Q := by
  refine gM.of (by decide) (Nat.le_of_ble_eq_true rfl) ?_
  refine g_iload_n dX8_whole_0 rfl ?_
  refine g_iload_n dX8_whole_1 rfl ?_
  refine g_i2l dX8_whole_2 ?_
  refine g_iload_n dX8_whole_3 rfl ?_
  refine g_i2l dX8_whole_4 ?_
  refine g_callS (d1 := d - 1) (As := [_, _, _]) dX8_whole_5 sX8_30 (by omega) rfl rfl (Nat.le_of_ble_eq_true rfl) ?_
  refine c_wide ?_
  refine g_l2i dX8_whole_8 ?_
  refine g_iret dX8_whole_9 rfl ?_
  rw [sWhole_wide]
  exact k
def fWeight (kind number plain : Int32) : Int32 := if kind = 3 then plain + 10 else if kind = 5 then 3 * plain else if kind = 7 then plain + 100 else if kind = 8 then plain + 105 else if kind = 9 then plain + number else if kind = 11 then 2 * (plain + number) else plain
set_option maxHeartbeats 4000000 in
set_option maxRecDepth 20000 in
theorem c_weightOf {g : GE} {d : Nat} {w : GW} {Q : Option Value → GW → Prop} {kind number plain : Int32} (k : Q (some (.int (fWeight kind number plain))) w) : gM g d mX3_weightOf [.int kind, .int number, .int plain] w Q := by
  refine gM.of (by decide) (Nat.le_of_ble_eq_true rfl) ?_
  refine g_iload_n dX3_weightOf_0 rfl ?_
  refine g_tsw dX3_weightOf_1 [52, 81, 57, 81, 61, 66, 71, 81, 75] 81 (by decide) (by decide) (by decide) (by decide) (by decide) ?_ (fun c1 => ?_)
  · simp only [tswK]
    refine ⟨fun c1 => ?_, fun c1 => ?_, fun c1 => ?_, fun c1 => ?_, fun c1 => ?_, fun c1 => ?_, fun c1 => ?_, fun c1 => ?_, fun c1 => ?_, trivial⟩
    · replace c1 := c1.trans (by decide : _ = (3 : Int32))
      refine g_iload_n dX3_weightOf_52 rfl ?_
      refine g_bipushV (v := 10) dX3_weightOf_53 (by decide) ?_
      refine g_iadd dX3_weightOf_55 ?_
      refine g_iret dX3_weightOf_56 rfl ?_
      simpa [fWeight, c1] using k
    · replace c1 := c1.trans (by decide : _ = (4 : Int32))
      refine g_iload_n dX3_weightOf_81 rfl ?_
      refine g_iret dX3_weightOf_82 rfl ?_
      simpa [fWeight, c1] using k
    · replace c1 := c1.trans (by decide : _ = (5 : Int32))
      refine g_iconstV (v := 3) dX3_weightOf_57 (by decide) ?_
      refine g_iload_n dX3_weightOf_58 rfl ?_
      refine g_imul dX3_weightOf_59 ?_
      refine g_iret dX3_weightOf_60 rfl ?_
      simpa [fWeight, c1] using k
    · replace c1 := c1.trans (by decide : _ = (6 : Int32))
      refine g_iload_n dX3_weightOf_81 rfl ?_
      refine g_iret dX3_weightOf_82 rfl ?_
      simpa [fWeight, c1] using k
    · replace c1 := c1.trans (by decide : _ = (7 : Int32))
      refine g_iload_n dX3_weightOf_61 rfl ?_
      refine g_bipushV (v := 100) dX3_weightOf_62 (by decide) ?_
      refine g_iadd dX3_weightOf_64 ?_
      refine g_iret dX3_weightOf_65 rfl ?_
      simpa [fWeight, c1] using k
    · replace c1 := c1.trans (by decide : _ = (8 : Int32))
      refine g_iload_n dX3_weightOf_66 rfl ?_
      refine g_bipushV (v := 105) dX3_weightOf_67 (by decide) ?_
      refine g_iadd dX3_weightOf_69 ?_
      refine g_iret dX3_weightOf_70 rfl ?_
      simpa [fWeight, c1] using k
    · replace c1 := c1.trans (by decide : _ = (9 : Int32))
      refine g_iload_n dX3_weightOf_71 rfl ?_
      refine g_iload_n dX3_weightOf_72 rfl ?_
      refine g_iadd dX3_weightOf_73 ?_
      refine g_iret dX3_weightOf_74 rfl ?_
      simpa [fWeight, c1] using k
    · replace c1 := c1.trans (by decide : _ = (10 : Int32))
      refine g_iload_n dX3_weightOf_81 rfl ?_
      refine g_iret dX3_weightOf_82 rfl ?_
      simpa [fWeight, c1] using k
    · replace c1 := c1.trans (by decide : _ = (11 : Int32))
      refine g_iconstV (v := 2) dX3_weightOf_75 (by decide) ?_
      refine g_iload_n dX3_weightOf_76 rfl ?_
      refine g_iload_n dX3_weightOf_77 rfl ?_
      refine g_iadd dX3_weightOf_78 ?_
      refine g_imul dX3_weightOf_79 ?_
      refine g_iret dX3_weightOf_80 rfl ?_
      simpa [fWeight, c1] using k
  · have c1n0 := tsw_ne c1 3 (by decide)
    have c1n1 := tsw_ne c1 4 (by decide)
    have c1n2 := tsw_ne c1 5 (by decide)
    have c1n3 := tsw_ne c1 6 (by decide)
    have c1n4 := tsw_ne c1 7 (by decide)
    have c1n5 := tsw_ne c1 8 (by decide)
    have c1n6 := tsw_ne c1 9 (by decide)
    have c1n7 := tsw_ne c1 10 (by decide)
    have c1n8 := tsw_ne c1 11 (by decide)
    refine g_iload_n dX3_weightOf_81 rfl ?_
    refine g_iret dX3_weightOf_82 rfl ?_
    simpa [fWeight, c1n0, c1n1, c1n2, c1n3, c1n4, c1n5, c1n6, c1n7, c1n8] using k
def fWithin (v lo hi : Int32) : Int32 := if hi < 0 then 1 else if v < lo ∨ hi < v then 0 else 1
set_option maxHeartbeats 4000000 in
set_option maxRecDepth 20000 in
theorem c_isWithin {g : GE} {d : Nat} {w : GW} {Q : Option Value → GW → Prop} {v lo hi : Int32} (k : Q (some (.int (fWithin v lo hi))) w) : gM g d mX7_isWithin [.int v, .int lo, .int hi] w Q := by
  refine gM.of (by decide) (Nat.le_of_ble_eq_true rfl) ?_
  refine g_iload_n dX7_isWithin_0 rfl ?_
  refine g_if_lt 14 dX7_isWithin_1 (by decide) (fun c1 => ?_) (fun c1 => ?_)
  · refine g_iconstV (v := 1) dX7_isWithin_14 (by decide) ?_
    refine g_goto 19 dX7_isWithin_15 (by decide) ?_
    refine g_zret dX7_isWithin_19 rfl rfl ?_
    simpa [fWithin, c1] using k
  · refine g_iload_n dX7_isWithin_4 rfl ?_
    refine g_iload_n dX7_isWithin_5 rfl ?_
    refine g_icmp_lt 18 dX7_isWithin_6 (by decide) (fun c2 => ?_) (fun c2 => ?_)
    · refine g_iconstV (v := 0) dX7_isWithin_18 (by decide) ?_
      refine g_zret dX7_isWithin_19 rfl rfl ?_
      simpa [fWithin, c1, c2] using k
    · refine g_iload_n dX7_isWithin_9 rfl ?_
      refine g_iload_n dX7_isWithin_10 rfl ?_
      refine g_icmp_gt 18 dX7_isWithin_11 (by decide) (fun c3 => ?_) (fun c3 => ?_)
      · refine g_iconstV (v := 0) dX7_isWithin_18 (by decide) ?_
        refine g_zret dX7_isWithin_19 rfl rfl ?_
        simpa [fWithin, c1, c2, c3] using k
      · refine g_iconstV (v := 1) dX7_isWithin_14 (by decide) ?_
        refine g_goto 19 dX7_isWithin_15 (by decide) ?_
        refine g_zret dX7_isWithin_19 rfl rfl ?_
        simpa [fWithin, c1, c2, c3] using k
set_option maxHeartbeats 4000000 in
set_option maxRecDepth 20000 in
theorem c_isCounted {g : GE} {d : Nat} {w : GW} {Q : Option Value → GW → Prop} {n : Nat} (hS : SK g w) (hn : gI w 5 (eB g + 1) = nI n) (hn2 : n ≤ 200) (k1 : n = 200 → Q (some (.int 0)) w) (k2 : n < 200 → Q (some (.int 1)) (setI w 5 (eB g + 1) (nI (n + 1)))) : gM g d mX0_isCounted [.ref (eB g + 1)] w Q := by
  refine gM.of (by decide) (Nat.le_of_ble_eq_true rfl) ?_
  have o1 : gOb g w (eB g + 1) 0 := hS.ob 1 rfl
  refine g_aload_n dX0_isCounted_0 rfl ?_
  refine g_getI 0 5 5 dX0_isCounted_1 fX0_46 rfl rfl (by assumption) ?_
  refine g_sipushV (v := 200) dX0_isCounted_4 (by decide) ?_
  refine g_icmp_lt 12 dX0_isCounted_7 (by decide) (fun c1 => ?_) (fun c1 => ?_)
  · refine g_aload_n dX0_isCounted_12 rfl ?_
    refine g_dup dX0_isCounted_13 rfl ?_
    refine g_getI 0 5 5 dX0_isCounted_14 fX0_46 rfl rfl (by assumption) ?_
    refine g_iconstV (v := 1) dX0_isCounted_17 (by decide) ?_
    refine g_iadd dX0_isCounted_18 ?_
    refine g_putI 0 5 5 dX0_isCounted_19 fX0_46 rfl rfl (by assumption) ?_
    refine g_iconstV (v := 1) dX0_isCounted_22 (by decide) ?_
    refine g_zret dX0_isCounted_23 rfl rfl ?_
    first
      | exact k1 (Classical.byContradiction fun q => c1 (by rw [hn]; exact nI_lt (b := 200) (by omega) (by decide)))
      | (have h2 : n < 200 := (nI_ltI (by omega) (by decide)).mp (show nI n < nI 200 from hn ▸ c1)
         have e : gI w 5 (eB g + 1) + 1 = nI (n + 1) := (by rw [hn]; exact nI_1 n)
         exact e ▸ k2 h2)
  · refine g_iconstV (v := 0) dX0_isCounted_10 (by decide) ?_
    refine g_zret dX0_isCounted_11 rfl rfl ?_
    first
      | exact k1 (Classical.byContradiction fun q => c1 (by rw [hn]; exact nI_lt (b := 200) (by omega) (by decide)))
      | (have h2 : n < 200 := (nI_ltI (by omega) (by decide)).mp (show nI n < nI 200 from hn ▸ c1)
         have e : gI w 5 (eB g + 1) + 1 = nI (n + 1) := (by rw [hn]; exact nI_1 n)
         exact e ▸ k2 h2)
set_option maxHeartbeats 4000000 in
set_option maxRecDepth 20000 in
theorem c_leaveBy {g : GE} {d : Nat} {w : GW} {Q : Option Value → GW → Prop} {a : Nat} (hS : SK g w) (k : Q (some (.int 3)) (setR w 8 (eB g + 1) (some a))) : gM g d mX0_leaveBy [.ref (eB g + 1), .ref a] w Q := by
  refine gM.of (by decide) (Nat.le_of_ble_eq_true rfl) ?_
  have o1 : gOb g w (eB g + 1) 0 := hS.ob 1 rfl
  refine g_aload_n dX0_leaveBy_0 rfl ?_
  refine g_aload_n dX0_leaveBy_1 rfl ?_
  refine g_putR 0 8 8 dX0_leaveBy_2 fX0_56 rfl rfl rfl rfl (by assumption) ?_
  refine g_iconstV (v := 3) dX0_leaveBy_5 (by decide) ?_
  refine g_iret dX0_leaveBy_6 rfl ?_
  exact k
def aRt (g : GE) (r : Nat) : Nat := eB g + (if r = 0 then 2 else 3 + 2 * r)
def aSt (g : GE) (r : Nat) : Nat := eB g + (if r = 0 then 3 else 4 + 2 * r)
theorem SK.rt {g : GE} {w : GW} (h : SK g w) {r : Nat} (hr : r < 4) : gOb g w (aRt g r) 5 ∧ gOb g w (aSt g r) 15 ∧ gL w (aSt g r) = 40 ∧ gR w 321 (aRt g r) = some (aSt g r) ∧ gI w 320 (aRt g r) = nI r ∧ gP w (eB g + 4) r = some (aRt g r) := by
  rcases (show r = 0 ∨ r = 1 ∨ r = 2 ∨ r = 3 by omega) with rfl | rfl | rfl | rfl
  · exact ⟨h.ob 2 rfl, h.ob 3 rfl, h.len 3 rfl (by decide), h.rf 321 2 3 (by decide), h.it 320 2 0 (by decide +kernel), h.pt 4 0 2 (by decide)⟩
  · exact ⟨h.ob 5 rfl, h.ob 6 rfl, h.len 6 rfl (by decide), h.rf 321 5 6 (by decide), h.it 320 5 1 (by decide +kernel), h.pt 4 1 5 (by decide)⟩
  · exact ⟨h.ob 7 rfl, h.ob 8 rfl, h.len 8 rfl (by decide), h.rf 321 7 8 (by decide), h.it 320 7 2 (by decide +kernel), h.pt 4 2 7 (by decide)⟩
  · exact ⟨h.ob 9 rfl, h.ob 10 rfl, h.len 10 rfl (by decide), h.rf 321 9 10 (by decide), h.it 320 9 3 (by decide +kernel), h.pt 4 3 9 (by decide)⟩
set_option maxHeartbeats 4000000 in
set_option maxRecDepth 20000 in
theorem c_routineAt {g : GE} {d : Nat} {w : GW} {Q : Option Value → GW → Prop} {i : Int32} (hS : SK g w) (k1 : i < 0 ∨ nI 4 ≤ i → Q (some .null) w) (k2 : ∀ j : Nat, j < 4 → i = nI j → Q (some (.ref (aRt g j))) w) : gM g d mX0_routineAt [.ref (eB g + 1), .int i] w Q := by
  refine gM.of (by decide) (Nat.le_of_ble_eq_true rfl) ?_
  have o1 : gOb g w (eB g + 1) 0 := hS.ob 1 rfl
  have o4 : gOb g w (eB g + 4) 13 := hS.ob 4 rfl
  have l4 : gL w (eB g + 4) = 4 := hS.len 4 rfl (by decide)
  have r4 : gR w 0 (eB g + 1) = some (eB g + 4) := hS.rf 0 1 4 (by decide)
  refine g_iload_n dX0_routineAt_0 rfl ?_
  refine g_if_lt 22 dX0_routineAt_1 (by decide) (fun c1 => ?_) (fun c1 => ?_)
  · refine g_null dX0_routineAt_22 ?_
    refine g_aretN dX0_routineAt_23 rfl ?_
    exact k1 (Or.inl c1)
  · refine g_iload_n dX0_routineAt_4 rfl ?_
    refine g_aload_n dX0_routineAt_5 rfl ?_
    refine g_getR 0 0 0 dX0_routineAt_6 fX0_18 rfl rfl (by assumption) (by assumption) ?_
    refine g_alen 13 dX0_routineAt_9 (by assumption) (by decide) (by decide) ?_
    rw [l4]
    refine g_icmp_ge 22 dX0_routineAt_10 (by decide) (fun c2 => ?_) (fun c2 => ?_)
    · refine g_null dX0_routineAt_22 ?_
      refine g_aretN dX0_routineAt_23 rfl ?_
      exact k1 (Or.inr c2)
    · obtain ⟨j, hj, rfl⟩ := nI_of_rng (n := 4) c1 c2 (by decide)
      refine g_aload_n dX0_routineAt_13 rfl ?_
      refine g_getR 0 0 0 dX0_routineAt_14 fX0_18 rfl rfl (by assumption) (by assumption) ?_
      refine g_iload_n dX0_routineAt_17 rfl ?_
      refine g_aald13 dX0_routineAt_18 o4 rfl (by rw [l4]; exact hj) (hS.rt hj).2.2.2.2.2 ?_
      refine g_goto 23 dX0_routineAt_19 (by decide) ?_
      refine g_aret dX0_routineAt_23 rfl ?_
      exact k2 j hj rfl
set_option maxHeartbeats 4000000 in
set_option maxRecDepth 20000 in
theorem c_rowAt {g : GE} {d : Nat} {w : GW} {Q : Option Value → GW → Prop} {i : Int32} (hS : SK g w) (k1 : i < 0 ∨ nI 18 ≤ i → Q (some .null) w) (k2 : ∀ j : Nat, j < 18 → i = nI j → Q (some (.ref (aRow g j))) w) : gM g d mX0_rowAt [.ref (eB g + 1), .int i] w Q := by
  refine gM.of (by decide) (Nat.le_of_ble_eq_true rfl) ?_
  have o1 : gOb g w (eB g + 1) 0 := hS.ob 1 rfl
  have o4 : gOb g w (eB g + 11) 14 := hS.ob 11 rfl
  have l4 : gL w (eB g + 11) = 18 := hS.len 11 rfl (by decide)
  have r4 : gR w 1 (eB g + 1) = some (eB g + 11) := hS.rf 1 1 11 (by decide)
  refine g_iload_n dX0_rowAt_0 rfl ?_
  refine g_if_lt 22 dX0_rowAt_1 (by decide) (fun c1 => ?_) (fun c1 => ?_)
  · refine g_null dX0_rowAt_22 ?_
    refine g_aretN dX0_rowAt_23 rfl ?_
    exact k1 (Or.inl c1)
  · refine g_iload_n dX0_rowAt_4 rfl ?_
    refine g_aload_n dX0_rowAt_5 rfl ?_
    refine g_getR 0 1 1 dX0_rowAt_6 fX0_24 rfl rfl (by assumption) (by assumption) ?_
    refine g_alen 14 dX0_rowAt_9 (by assumption) (by decide) (by decide) ?_
    rw [l4]
    refine g_icmp_ge 22 dX0_rowAt_10 (by decide) (fun c2 => ?_) (fun c2 => ?_)
    · refine g_null dX0_rowAt_22 ?_
      refine g_aretN dX0_rowAt_23 rfl ?_
      exact k1 (Or.inr c2)
    · obtain ⟨j, hj, rfl⟩ := nI_of_rng (n := 18) c1 c2 (by decide)
      refine g_aload_n dX0_rowAt_13 rfl ?_
      refine g_getR 0 1 1 dX0_rowAt_14 fX0_24 rfl rfl (by assumption) (by assumption) ?_
      refine g_iload_n dX0_rowAt_17 rfl ?_
      refine g_aald14 dX0_rowAt_18 o4 rfl (by rw [l4]; exact hj) (hS.row hj).2.2.2.2.2.2.2.2 ?_
      refine g_goto 23 dX0_rowAt_19 (by decide) ?_
      refine g_aret dX0_rowAt_23 rfl ?_
      exact k2 j hj rfl
