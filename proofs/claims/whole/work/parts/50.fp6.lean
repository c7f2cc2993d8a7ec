theorem z_d2f {x : UInt64} (h : dOK x) : FF (FP.d2f x) ∧ dOK (FP.f2d (FP.d2f x)) := by
  obtain ⟨hx, hb⟩ := dOK_iff.mp h
  have h1 : FP.dIsNaN x = false := (FP.Core.notNaN_iff x).mpr hx.nn
  have fx := FP.Core.val64_fits x
  obtain ⟨s, c, q, e⟩ := id hx
  rw [e] at fx
  have hq : FP.Core.b64.qmin ≤ q := fx.2.1
  have hzx : FP.Core.inUnits c q FP.Core.b64.qmin = zm x := by unfold zm; rw [e]; rfl
  have e2 : FP.Core.val32 (FP.d2f x) = FP.Core.roundRatio FP.Core.b32 s c 1 q := by
    rw [FP.d2f_core h1, FP.Core.val32_d2f, e]; rfl
  have g5 : (FP.Core.b32.qmin - FP.Core.b64.qmin).toNat = 925 := by decide
  have e925 : (2 : Nat) ^ 925 = yK := rfl
  have hle : ym (FP.d2f x) ≤ ym 1482907562 := by
    unfold ym
    rw [e2]
    refine FP.Core.zmag_roundRatio_le FP.Core.good_b32 (V := FP.Core.val32 1482907562) (e0 := FP.Core.b64.qmin) (by decide) (FP.Core.val32_fits _) (by decide +kernel) (by decide) hq ?_
    rw [hzx, g5, Nat.mul_one, e925]
    have n0 : ∀ a : UInt32, FP.Core.zmag FP.Core.b32 (FP.Core.val32 a) = ym a := fun _ => rfl
    rw [n0, y_next]
    omega
  have hf : FF (FP.d2f x) := by
    have hnn := nn_d2f hx
    have hlt := Nat.lt_of_le_of_lt hle y_top
    unfold ym at hlt
    cases e3 : FP.Core.val32 (FP.d2f x) with
    | nan => exact absurd e3 hnn
    | inf t => rw [e3] at hlt; exact absurd hlt (Nat.lt_irrefl _)
    | fin t c2 q2 => exact ⟨t, c2, q2, e3⟩
  refine ⟨hf, ?_⟩
  obtain ⟨w1, w2⟩ := z_f2d hf
  have hym : ym (FP.d2f x) ≤ ym fMost := by
    have f1 : FF fMost := (FP.Core.fin_bits32 _).mpr (by decide)
    have f2 : FF (1482907562 : UInt32) := (FP.Core.fin_bits32 _).mpr (by decide)
    have hne : ¬ ym (FP.d2f x) = ym 1482907562 := by
      intro hh
      obtain ⟨t, c2, q2, e3⟩ := id hf
      have fd := FP.Core.val32_fits (FP.d2f x)
      rw [e3] at fd
      have fm := FP.Core.val32_fits fMost
      obtain ⟨t4, c4, q4, e4⟩ := id f1
      rw [e4] at fm
      have hd := FP.Core.roundRatio_nearest FP.Core.good_b32 (e0 := FP.Core.b64.qmin) (by decide : 0 < 1) (e2.symm.trans e3) fm.1 fm.2.1 (by decide) hq
      unfold FP.Core.distance at hd
      have u1 := FP.Core.units_fin fd (e0 := FP.Core.b64.qmin) (by decide)
      have u2 := FP.Core.units_fin fm (e0 := FP.Core.b64.qmin) (by decide)
      rw [hzx, u1, u2, g5, e925] at hd
      have v1 : FP.Core.zmag FP.Core.b32 (.fin t c2 q2) = ym (FP.d2f x) := by unfold ym; rw [e3]
      have v2 : FP.Core.zmag FP.Core.b32 (.fin t4 c4 q4) = ym fMost := by unfold ym; rw [e4]
      rw [v1, v2, hh] at hd
      rw [y_next, y_most] at hd
      have := zU_pos
      omega
    rw [ym_bits hf, ym_bits f2] at hle hne
    rw [ym_bits hf, ym_bits f1]
    have hl := FP.Core.unitsOf_le_iff.mp hle
    refine FP.Core.unitsOf_le_iff.mpr ?_
    have e5 : (1482907562 : UInt32).toNat % 2 ^ 31 = 1482907562 := by decide +kernel
    have e6 : fMost.toNat % 2 ^ 31 = 1482907561 := by decide +kernel
    rw [e5] at hl hne
    rw [e6]
    have : ¬ (FP.d2f x).toNat % 2 ^ 31 = 1482907562 := fun z => hne (by rw [z])
    omega
  refine dOK_iff.mpr ⟨DF_f2d hf, ?_⟩
  rw [w2]
  have := Nat.mul_le_mul_right yK hym
  have := y_most
  have := zU_pos
  omega
/-! what a place of a row holds is a dial's -/
theorem dOK_held {k : Nat} {x : UInt64} (h : dOK x) : dOK (fHeld k x) := by
  unfold fHeld
  split
  · split
    · exact dOK_0
    · exact dOK_1
  split
  · exact dOK_i2d _
  split
  · exact dOK_i2d _
  split
  · exact dOK_i2d _
  split
  · exact dOK_i2d _
  split
  · exact dOK_long h
  split
  · exact (z_d2f h).2
  · exact h
