/-! ===== floats ===== -/
def ys (a : UInt32) : Bool := FP.Core.sgn (FP.Core.val32 a)
def ym (a : UInt32) : Nat := FP.Core.zmag FP.Core.b32 (FP.Core.val32 a)
def yK : Nat := 2 ^ 925
theorem yK_pos : 0 < yK := Nat.two_pow_pos _
theorem z_f2d {a : UInt32} (h : FF a) : zs (FP.f2d a) = ys a ∧ zm (FP.f2d a) = ym a * yK := by
  have h1 : FP.fIsNaN a = false := (FP.Core.notNaN_iff32 a).mpr h.nn
  have fa := FP.Core.val32_fits a
  obtain ⟨s, c, q, e⟩ := id h
  rw [e] at fa
  obtain ⟨c', q', k1, k2, k3⟩ := FP.Core.within_fit FP.Core.good_b64 FP.Core.within_32_64 fa
  have e2 : FP.Core.val64 (FP.f2d a) = .fin s c' q' := by
    rw [FP.f2d_core h1, FP.Core.val64_f2d, e]
    exact FP.Core.roundRatio_exact FP.Core.good_b64 (by decide) k1 k3
  refine ⟨?_, ?_⟩
  · unfold zs ys; rw [e2, e]; rfl
  · have g1 : FP.Core.b32.qmin ≤ q := fa.2.1
    have g2 : FP.Core.b64.qmin ≤ q' := k1.2.1
    have g3 : FP.Core.b32.qmin = -149 := by decide
    have g4 : FP.Core.b64.qmin = -1074 := by decide
    unfold zm ym yK
    rw [e2, e]
    show c' * 2 ^ (q' - FP.Core.b64.qmin).toNat = c * 2 ^ (q - FP.Core.b32.qmin).toNat * 2 ^ 925
    rw [Nat.mul_assoc, ← Nat.pow_add]
    rw [Nat.mul_one] at k3
    by_cases hq : q' ≤ q
    · rw [show (q' - q).toNat = 0 by omega, Nat.pow_zero, Nat.mul_one] at k3
      rw [← k3, Nat.mul_assoc, ← Nat.pow_add]
      congr 2
      omega
    · rw [show (q - q').toNat = 0 by omega, Nat.pow_zero, Nat.mul_one] at k3
      rw [k3, Nat.mul_assoc, ← Nat.pow_add]
      congr 2
      omega
def fMost : UInt32 := 1482907561
theorem y_most : ym fMost * yK = 999999986991104 * zU := by decide +kernel
theorem y_next : ym 1482907562 * yK = 1000000054099968 * zU := by decide +kernel
theorem ym_bits {a : UInt32} (h : FF a) : ym a = FP.Core.unitsOf FP.Core.b32 (a.toNat % 2 ^ 31) := FP.Core.zmag_toNat32 h.nn
theorem y_top : ym 1482907562 < FP.Core.b32.tails * 2 ^ (FP.Core.b32.exps - 2) := by decide +kernel
theorem z_frem {a b : UInt32} (ha : FF a) (hb : FF b) (h0 : ¬ ym b = 0) : FP.f2d (FP.frem a b) = FP.drem (FP.f2d a) (FP.f2d b) ∧ FF (FP.frem a b) := by
  have hz : ¬ FP.Core.FZero b := fun q => h0 (by rw [ym_bits hb, FP.Core.unitsOf_eq_zero]; exact (FP.Core.zero_bits232 b).mp q)
  obtain ⟨r1, r2, r3⟩ := FP.Core.frem_zval ha hb.nn hz
  have r3' : ym (FP.frem a b) = ym a % ym b := r3
  have hlt : ym a < FP.Core.b32.tails * 2 ^ (FP.Core.b32.exps - 2) := FP.Core.FFin.zval_lt ha
  have hf : FF (FP.frem a b) := by
    have hl2 : ym (FP.frem a b) < FP.Core.b32.tails * 2 ^ (FP.Core.b32.exps - 2) := by rw [r3']; exact Nat.lt_of_le_of_lt (Nat.mod_le _ _) hlt
    unfold ym at hl2
    cases e3 : FP.Core.val32 (FP.frem a b) with
    | nan => exact absurd e3 r1
    | inf t => rw [e3] at hl2; exact absurd hl2 (Nat.lt_irrefl _)
    | fin t c2 q2 => exact ⟨t, c2, q2, e3⟩
  obtain ⟨a1, a2⟩ := z_f2d ha
  obtain ⟨b1, b2⟩ := z_f2d hb
  obtain ⟨c1, c2⟩ := z_f2d hf
  have hk := yK_pos
  obtain ⟨d1, d2, d3⟩ := z_rem (DF_f2d ha) (DF_f2d hb) (by rw [b2]; exact Nat.mul_ne_zero h0 (by omega))
  refine ⟨z_ext (DF_f2d hf) d1 ?_ ?_, hf⟩
  · rw [c1, d2, a1]; exact r2
  · rw [c2, d3, a2, b2, r3', Nat.mul_mod_mul_right]
theorem one_K : FP.Core.one64 = FP.Core.one32 * yK := by decide +kernel
theorem z_f2l {a : UInt32} (h : FF a) : FP.f2l a = FP.d2l (FP.f2d a) := by
  obtain ⟨a1, a2⟩ := z_f2d h
  refine Int64.toInt.inj ?_
  rw [show (FP.f2l a).toInt = _ from FP.Core.f2l_val h.nn, show (FP.d2l (FP.f2d a)).toInt = _ from FP.Core.d2l_val (DF_f2d h).nn]
  have e1 : FP.Core.sgn (FP.Core.val64 (FP.f2d a)) = FP.Core.sgn (FP.Core.val32 a) := a1
  have e2 : FP.Core.zmag FP.Core.b64 (FP.Core.val64 (FP.f2d a)) / FP.Core.one64 = FP.Core.zmag FP.Core.b32 (FP.Core.val32 a) / FP.Core.one32 := by
    have : FP.Core.zmag FP.Core.b64 (FP.Core.val64 (FP.f2d a)) = FP.Core.zmag FP.Core.b32 (FP.Core.val32 a) * yK := a2
    rw [this, one_K, Nat.mul_div_mul_right _ _ yK_pos]
  rw [e1, e2]
theorem y_nz {b : UInt32} (hb : FF b) (h : ¬ FP.fcmp b FP.fconst0 = some .eq) : ¬ ym b = 0 := by
  intro q
  refine h (fzero_cmp ((FP.Core.zero_bits232 b).mpr ?_))
  rw [ym_bits hb] at q
  exact FP.Core.unitsOf_eq_zero.mp q
