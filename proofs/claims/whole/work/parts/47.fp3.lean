theorem z_half : 2 * zv dHalf = (zU : Int) := by decide +kernel
theorem DF_half : DF dHalf := (FP.Core.fin_bits _).mpr (by decide)
theorem nz_one : ¬ FP.Core.DZero FP.dconst1 := one_nz
theorem zm_one : zm FP.dconst1 = zU := by rw [zm_of_zv z_1.2, Int.natAbs_natCast]
theorem DZ_zm {a : UInt64} (h : DF a) : FP.Core.DZero a ↔ zm a = 0 := by
  rw [FP.Core.zero_bits2, zm_bits h, FP.Core.unitsOf_eq_zero]
/-- % : the sign of what is divided, the rest of the magnitudes -/
theorem z_rem {a b : UInt64} (ha : DF a) (hb : DF b) (h0 : ¬ zm b = 0) : DF (FP.drem a b) ∧ zs (FP.drem a b) = zs a ∧ zm (FP.drem a b) = zm a % zm b := by
  obtain ⟨h1, h2, h3⟩ := FP.Core.drem_zval ha hb.nn (fun q => h0 ((DZ_zm hb).mp q))
  have h3' : zm (FP.drem a b) = zm a % zm b := h3
  refine ⟨DF_of_zm h1 ?_, h2, h3'⟩
  rw [h3']
  exact Nat.lt_of_le_of_lt (Nat.mod_le _ _) (zm_lt ha)
/-- Sums.nearestWhole -/
def sUp (z : UInt64) : Prop := FP.dcmp (FP.dsub z (FP.l2d (FP.d2l z))) dHalf = some .gt ∨ (FP.dcmp (FP.dsub z (FP.l2d (FP.d2l z))) dHalf = some .eq ∧ FP.d2l z - FP.d2l z / 2 * 2 = 1)
noncomputable def sN (z : UInt64) : UInt64 := FP.l2d (@ite _ (sUp z) (Classical.propDecidable _) (FP.d2l z + 1) (FP.d2l z))
noncomputable def sNear (y : UInt64) : UInt64 := if FP.dcmp y FP.dconst0 = some .eq then y else if FP.dcmp y FP.dconst0 = some .lt then FP.dneg (sN (FP.dneg y)) else sN y
/-- of a double that is not below 0: what is over its whole number, and the number -/
theorem over_of {z : UInt64} (h : dOK z) (hs : zs z = false) : ∃ m : Nat, m ≤ 1000000000000000 ∧ m * zU ≤ zm z ∧ zm z < m * zU + zU ∧ (FP.d2l z).toInt = (m : Int) ∧ zv (FP.dsub z (FP.l2d (FP.d2l z))) = (zm z : Int) - ((m * zU : Nat) : Int) ∧ DF (FP.dsub z (FP.l2d (FP.d2l z))) := by
  obtain ⟨m, m1, m2, m3, m4, m5, m6⟩ := z_trunc h
  have hn : (FP.d2l z).toInt = (m : Int) := by
    rcases m6 with q | q
    · rw [hs] at q; cases q.1
    · exact q.2
  have hzv : zv z = (zm z : Int) := by
    rcases zv_cases z with q | q
    · rw [hs] at q; cases q.1
    · exact q.2
  have eW := z_l2dn hn (by omega)
  obtain ⟨r1, r2, r3⟩ := z_rem h.1 DF_one (by rw [zm_one]; have := zU_pos; omega)
  have hr : zv (FP.drem z FP.dconst1) = (zm z : Int) - ((m * zU : Nat) : Int) := by
    rcases zv_cases (FP.drem z FP.dconst1) with q | q
    · rw [r2, hs] at q; cases q.1
    · rw [q.2, r3, zm_one, m4]; omega
  have hc : ((m * zU : Nat) : Int) = (m : Int) * (zU : Int) := by push_cast; rfl
  obtain ⟨a1, a2⟩ := z_sub (V := FP.drem z FP.dconst1) h.1 (DF_l2d (FP.d2l z)) r1 (by rw [hr, hzv, eW]; omega)
  exact ⟨m, m1, m2, m3, hn, by rw [a1, hr], a2⟩
theorem up_of {z : UInt64} (h : dOK z) (hs : zs z = false) {m : Nat} (hm : m ≤ 1000000000000000) (hn : (FP.d2l z).toInt = (m : Int)) (hv : zv (FP.dsub z (FP.l2d (FP.d2l z))) = (zm z : Int) - ((m * zU : Nat) : Int)) (hd : DF (FP.dsub z (FP.l2d (FP.d2l z)))) : sUp z ↔ ((zU : Int) < 2 * ((zm z : Int) - ((m * zU : Nat) : Int)) ∨ ((zU : Int) = 2 * ((zm z : Int) - ((m * zU : Nat) : Int)) ∧ m % 2 = 1)) := by
  unfold sUp
  rw [zc_gt hd DF_half, zc_eq hd DF_half, hv, l_odd1 (by omega) hn]
  have := z_half
  constructor
  · rintro (q | ⟨q1, q2⟩)
    · exact Or.inl (by omega)
    · exact Or.inr ⟨by omega, q2⟩
  · rintro (q | ⟨q1, q2⟩)
    · exact Or.inl (by omega)
    · exact Or.inr ⟨by omega, q2⟩
theorem d2l_of {n : Int64} (h : n.toInt.natAbs ≤ 2 ^ 53) : FP.d2l (FP.l2d n) = n := FP.Core.d2l_l2d h
theorem d2l_whole {a : UInt64} {n : Int64} (ha : DF a) (h : n.toInt.natAbs ≤ 2 ^ 53) (e : zv a = n.toInt * (zU : Int)) (h0 : ¬ zv a = 0) : FP.d2l a = n := by
  have : a = FP.l2d n := z_extv ha (DF_l2d n) (by rw [e, z_l2d h]) h0
  rw [this, d2l_of h]
theorem near_pos {y : UInt64} (h : dOK y) (hs : zs y = false) (h0 : ¬ zv y = 0) : sN y = mNear y := by
  obtain ⟨m, m1, m2, m3, hn, hv, hd⟩ := over_of h hs
  have hU := zU_pos
  have hy := h.1
  have hzy : zv y = (zm y : Int) := by
    rcases zv_cases y with q | q
    · rw [hs] at q; cases q.1
    · exact q.2
  have eW := z_l2dn hn (by omega)
  have dW := DF_l2d (FP.d2l y)
  have hc : ((m * zU : Nat) : Int) = (m : Int) * (zU : Int) := by push_cast; rfl
  obtain ⟨i1, i2⟩ := z_inc (n := FP.d2l y) (by omega)
  rw [hn] at i1
  -- the whole number below is l2d n
  have hlow : mLower y = FP.l2d (FP.d2l y) := by
    rw [← below_eq h]
    unfold sBelow
    rw [if_neg (fun q => h0 (by have := (zc_eq hy DF_zero).mp q; rw [z_0.2.2] at this; exact this)), if_neg (fun q => by have := (zc_gt dW hy).mp q; omega)]
  have hup : mUp y ↔ sUp y := by
    rw [up_of h hs m1 hn hv hd]
    unfold mUp
    rw [hlow, d2l_of (by omega), zc_gt hd DF_half, zc_eq hd DF_half, hv, l_odd0 (by omega) (Or.inl hn)]
    have := z_half
    constructor
    · rintro (q | ⟨q1, q2⟩)
      · exact Or.inl (by omega)
      · exact Or.inr ⟨by omega, by omega⟩
    · rintro (q | ⟨q1, q2⟩)
      · exact Or.inl (by omega)
      · exact Or.inr ⟨by omega, by omega⟩
  have eI := z_l2dn (n := FP.d2l y + 1) (l_add1 (by omega)) (by omega)
  unfold sN mNear
  by_cases hu : sUp y
  · rw [if_pos hu, if_pos (hup.mpr hu), hlow]
    have hpos : (0 : Int) < ((m : Int) + 1) * (zU : Int) := Int.mul_pos (by omega) (by omega)
    rw [mSigned0_nz i2 (by rw [i1]; omega)]
    exact z_extv (DF_l2d _) i2 (by rw [eI, i1, hn]) (by rw [eI, hn]; omega)
  · rw [if_neg hu, if_neg (fun q => hu (hup.mp q)), hlow]
    by_cases hz : zv (FP.l2d (FP.d2l y)) = 0
    · obtain ⟨a1, a2, a3⟩ := mSigned0_z dW hy hz
      refine z_ext dW a3 ?_ (by rw [a2, zm_of_zv hz]; rfl)
      rw [a1, hs, zs_l2d, hn]
      exact decide_eq_false (by omega)
    · rw [mSigned0_nz dW hz]
theorem near_neg {y : UInt64} (h : dOK y) (hs : zs y = true) (h0 : ¬ zv y = 0) : FP.dneg (sN (FP.dneg y)) = mNear y := by
  have hy := h.1
  have hz := dOK_neg h
  obtain ⟨n1, n2⟩ := z_negs hy
  have hsz : zs (FP.dneg y) = false := by rw [n1, hs]; rfl
  obtain ⟨m, m1, m2, m3, hn, hv, hd⟩ := over_of hz hsz
  rw [n2] at m2 m3
  have hU := zU_pos
  have hzy : zv y = -(zm y : Int) := by
    rcases zv_cases y with q | q
    · exact q.2
    · rw [hs] at q; cases q.1
  have eN := dOK_d2l_neg h
  have hny : (FP.d2l y).toInt = -(m : Int) := by omega
  have hc : ((m * zU : Nat) : Int) = (m : Int) * (zU : Int) := by push_cast; rfl
  have hc1 : (((m + 1) * zU : Nat) : Int) = ((m : Int) + 1) * (zU : Int) := by push_cast; rfl
  have hc2 : (m + 1) * zU = m * zU + zU := Nat.succ_mul m zU
  have eW := z_l2dn hny (by omega)
  rw [Int.neg_mul] at eW
  have dW := DF_l2d (FP.d2l y)
  have eS := z_l2dn hn (by omega)
  have eS1 := z_l2dn (n := FP.d2l (FP.dneg y) + 1) (l_add1 (by omega)) (by omega)
  rw [hn] at eS1
  have hsu := up_of hz hsz m1 hn hv hd
  rw [n2] at hsu
  have hlowB : mLower y = sBelow y := (below_eq h).symm
  have hlow : sBelow y = if FP.dcmp (FP.l2d (FP.d2l y)) y = some .gt then FP.dsub (FP.l2d (FP.d2l y)) FP.dconst1 else FP.l2d (FP.d2l y) := by
    unfold sBelow
    rw [if_neg (fun q => h0 (by have := (zc_eq hy DF_zero).mp q; rw [z_0.2.2] at this; exact this))]
  have hH := z_half
  by_cases hr : zm y = m * zU
  · -- y is whole
    have hnu : ¬ sUp (FP.dneg y) := by rw [hsu]; omega
    rw [if_neg (fun q => by have := (zc_gt dW hy).mp q; omega)] at hlow
    have hWy : FP.l2d (FP.d2l y) = y := z_extv dW hy (by omega) (by omega)
    have hnm : ¬ mUp y := by
      unfold mUp
      rw [hlowB, hlow, hWy]
      obtain ⟨a1, a2⟩ := z_sub (V := FP.dconst0) hy hy DF_zero (by rw [z_0.2.2]; omega)
      rw [z_0.2.2] at a1
      rw [zc_gt a2 DF_half, zc_eq a2 DF_half, a1]
      omega
    unfold sN mNear
    rw [if_neg hnu, if_neg hnm, hlowB, hlow, mSigned0_nz dW (by omega)]
    exact z_extv (DF_neg (DF_l2d _)) dW (by rw [z_negv (DF_l2d _), eS]; omega) (by rw [z_negv (DF_l2d _), eS]; omega)
  · -- something is over
    rw [if_pos ((zc_gt dW hy).mpr (by omega))] at hlow
    obtain ⟨d1, d2⟩ := z_dec (n := FP.d2l y) (by omega)
    rw [hny, show (-(m : Int) - 1) = -((m : Int) + 1) by omega, Int.neg_mul] at d1
    have dD : FP.d2l (FP.dsub (FP.l2d (FP.d2l y)) FP.dconst1) = FP.d2l y - 1 := d2l_whole d2 (by rw [l_sub1 (by omega)]; omega) (by rw [d1, l_sub1 (by omega), hny, show (-(m : Int) - 1) = -((m : Int) + 1) by omega, Int.neg_mul]) (by rw [d1]; omega)
    have nD : (FP.d2l y - 1).toInt = -((m + 1 : Nat) : Int) := by rw [l_sub1 (by omega)]; omega
    have hpar : FP.d2l y - 1 - (FP.d2l y - 1) / 2 * 2 = 0 ↔ (m + 1) % 2 = 0 := l_odd0 (by omega) (Or.inr nD)
    have dM := nn_subv hy d2
    -- what is more: exact, or well above a half
    have hmore : DF (FP.dsub y (FP.dsub (FP.l2d (FP.d2l y)) FP.dconst1)) ∧ ((zv (FP.dsub y (FP.dsub (FP.l2d (FP.d2l y)) FP.dconst1)) = (((m + 1) * zU : Nat) : Int) - (zm y : Int)) ∨ (m = 0 ∧ 2 * zm y < zU ∧ (zU : Int) ≤ 2 * zv (FP.dsub y (FP.dsub (FP.l2d (FP.d2l y)) FP.dconst1)))) := by
      by_cases hbig : (m + 1) * zU ≤ 2 * zm y
      · obtain ⟨V, v1, v2⟩ : ∃ V : UInt64, DF V ∧ zv V = (((m + 1) * zU : Nat) : Int) - (zm y : Int) := by
          by_cases heq : (m + 1) * zU = 2 * zm y
          · exact ⟨FP.dneg y, DF_neg hy, by rw [z_negv hy, hzy]; omega⟩
          · have dS1 := DF_l2d (FP.d2l (FP.dneg y) + 1)
            have zS1 : zm (FP.l2d (FP.d2l (FP.dneg y) + 1)) = (m + 1) * zU := by rw [zm_of_zv eS1, ← hc1, Int.natAbs_natCast]
            have sS1 : zs (FP.l2d (FP.d2l (FP.dneg y) + 1)) = false := by rw [zs_l2d, l_add1 (by omega), hn]; exact decide_eq_false (by omega)
            obtain ⟨r1, r2, r3⟩ := z_rem dS1 hy (by omega)
            refine ⟨_, r1, ?_⟩
            have hmod : (m + 1) * zU % zm y = (m + 1) * zU - zm y := by
              rw [Nat.mod_eq_sub_mod (by omega), Nat.mod_eq_of_lt (by omega)]
            rcases zv_cases (FP.drem (FP.l2d (FP.d2l (FP.dneg y) + 1)) y) with q | q
            · rw [r2, sS1] at q; cases q.1
            · rw [q.2, r3, zS1, hmod]; omega
        obtain ⟨a1, a2⟩ := z_sub hy d2 v1 (by rw [v2, d1, hzy]; omega)
        exact ⟨a2, Or.inl (by rw [a1, v2])⟩
      · have hm0 : m = 0 := by
          rcases Nat.eq_zero_or_pos m with q | q
          · exact q
          · exfalso
            have : zU ≤ m * zU := Nat.le_mul_of_pos_left _ q
            omega
        have hge := z_sub_ge (V := dHalf) hy d2 DF_half (by rw [d1, hzy]; omega)
        have hle := z_sub_le (V := FP.dconst1) hy d2 DF_one (by rw [d1, hzy, z_1.2]; omega)
        have hz0 : m * zU = 0 := by rw [hm0, Nat.zero_mul]
        refine ⟨DF_of_zm dM ?_, Or.inr ⟨hm0, by omega, by omega⟩⟩
        have h1 := zm_of_zv (rfl : zv (FP.dsub y (FP.dsub (FP.l2d (FP.d2l y)) FP.dconst1)) = _)
        rw [z_1.2] at hle
        have := big_lt
        omega
    obtain ⟨hmd, hmv⟩ := hmore
    have hiff : mUp y ↔ ¬ sUp (FP.dneg y) := by
      unfold mUp
      rw [hlowB, hlow, dD, zc_gt hmd DF_half, zc_eq hmd DF_half, hpar, hsu]
      rcases hmv with q | ⟨q1, q2, q3⟩
      · rw [q]
        constructor
        · rintro (z | ⟨z1, z2⟩)
          · omega
          · omega
        · intro z
          by_cases he : (zU : Int) = 2 * ((zm y : Int) - ((m * zU : Nat) : Int))
          · exact Or.inr ⟨by omega, by omega⟩
          · exact Or.inl (by omega)
      · subst q1
        constructor
        · intro _; omega
        · intro _
          by_cases he : zv (FP.dsub y (FP.dsub (FP.l2d (FP.d2l y)) FP.dconst1)) = zv dHalf
          · exact Or.inr ⟨he, by omega⟩
          · exact Or.inl (by omega)
    unfold sN mNear
    by_cases hu : sUp (FP.dneg y)
    · rw [if_pos hu, if_neg (fun q => (hiff.mp q) hu), hlowB, hlow, mSigned0_nz d2 (by rw [d1]; omega)]
      exact z_extv (DF_neg (DF_l2d _)) d2 (by rw [z_negv (DF_l2d _), eS1, d1]) (by rw [z_negv (DF_l2d _), eS1]; omega)
    · rw [if_neg hu, if_pos (hiff.mpr hu), hlowB, hlow]
      obtain ⟨b1, b2⟩ := z_add (V := FP.l2d (FP.d2l y)) d2 DF_one dW (by rw [eW, d1, z_1.2]; omega)
      rw [eW] at b1
      by_cases hm0 : m = 0
      · subst hm0
        have b1' : zv (FP.dadd (FP.dsub (FP.l2d (FP.d2l y)) FP.dconst1) FP.dconst1) = 0 := by omega
        obtain ⟨a1, a2, a3⟩ := mSigned0_z b2 hy b1'
        obtain ⟨c1, c2⟩ := z_negs (DF_l2d (FP.d2l (FP.dneg y)))
        refine z_ext (DF_neg (DF_l2d _)) a3 ?_ ?_
        · rw [a1, hs, c1, zs_l2d, hn]; rfl
        · rw [a2, c2, zm_of_zv eS]; omega
      · have : zU ≤ m * zU := Nat.le_mul_of_pos_left _ (by omega)
        rw [mSigned0_nz b2 (by omega)]
        exact z_extv (DF_neg (DF_l2d _)) b2 (by rw [z_negv (DF_l2d _), eS]; omega) (by rw [z_negv (DF_l2d _), eS]; omega)
theorem near_eq {y : UInt64} (h : dOK y) : sNear y = mNear y := by
  have hy := h.1
  unfold sNear
  by_cases h0 : zv y = 0
  · rw [if_pos ((zc_eq hy DF_zero).mpr (by rw [z_0.2.2]; exact h0))]
    have hz : zm y = 0 := by rw [zm_of_zv h0]; rfl
    have hl : mLower y = y := by
      rw [← below_eq h]
      unfold sBelow
      rw [if_pos ((zc_eq hy DF_zero).mpr (by rw [z_0.2.2]; exact h0))]
    have hnm : ¬ mUp y := by
      unfold mUp
      rw [hl]
      obtain ⟨a1, a2⟩ := z_sub (V := FP.dconst0) hy hy DF_zero (by rw [z_0.2.2]; omega)
      rw [z_0.2.2] at a1
      rw [zc_gt a2 DF_half, zc_eq a2 DF_half, a1]
      have := z_half
      have := zU_pos
      omega
    unfold mNear
    rw [if_neg hnm, hl]
    obtain ⟨a1, a2, a3⟩ := mSigned0_z hy hy h0
    exact z_ext hy a3 a1.symm (by rw [a2, hz])
  · rw [if_neg (fun q => h0 (by have := (zc_eq hy DF_zero).mp q; rw [z_0.2.2] at this; exact this))]
    rcases zv_cases y with ⟨s1, s2⟩ | ⟨s1, s2⟩
    · rw [if_pos ((zc_lt hy DF_zero).mpr (by rw [z_0.2.2]; omega))]
      exact near_neg h s1 h0
    · rw [if_neg (fun q => by have := (zc_lt hy DF_zero).mp q; rw [z_0.2.2] at this; omega)]
      exact near_pos h s1 h0
