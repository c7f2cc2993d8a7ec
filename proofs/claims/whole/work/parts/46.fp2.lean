theorem l_quot (n : Int64) : (n / 2).toInt = n.toInt.tdiv 2 := Int64.toInt_div_of_ne_right n 2 (by decide)
theorem l_par {n : Int64} {m : Nat} (hm : m ≤ 2 ^ 53) (h : n.toInt = (m : Int) ∨ n.toInt = -(m : Int)) : (n - n / 2 * 2).toInt = (if n.toInt = (m : Int) then ((m % 2 : Nat) : Int) else -((m % 2 : Nat) : Int)) := by
  have hq : (n / 2).toInt = (m / 2 : Nat) ∧ n.toInt = (m : Int) ∨ (n / 2).toInt = -((m / 2 : Nat) : Int) ∧ n.toInt = -(m : Int) := by
    rcases h with e | e
    · refine Or.inl ⟨?_, e⟩
      rw [l_quot, e]; rfl
    · refine Or.inr ⟨?_, e⟩
      rw [l_quot, e, Int.neg_tdiv]; rfl
  have e2 : (2 : Int64).toInt = 2 := rfl
  have hmul : (n / 2 * 2).toInt = (n / 2).toInt * 2 := by
    have := FP.Core.int64_mul (a := n / 2) (b := 2) (by rw [e2]; rcases hq with q | q <;> rw [q.1] <;> omega) (by rw [e2]; rcases hq with q | q <;> rw [q.1] <;> omega)
    rw [this, e2]
  have hsub : (n - n / 2 * 2).toInt = n.toInt - (n / 2 * 2).toInt := FP.Core.int64_sub (by rw [hmul]; rcases hq with q | q <;> rw [q.1, q.2] <;> omega) (by rw [hmul]; rcases hq with q | q <;> rw [q.1, q.2] <;> omega)
  rw [hsub, hmul]
  rcases hq with q | q
  · rw [q.1, q.2, if_pos rfl]; omega
  · rw [q.1, q.2]
    by_cases h0 : m = 0
    · subst h0; rfl
    · rw [if_neg (by omega)]; omega
theorem l_odd0 {n : Int64} {m : Nat} (hm : m ≤ 2 ^ 53) (h : n.toInt = (m : Int) ∨ n.toInt = -(m : Int)) : n - n / 2 * 2 = 0 ↔ m % 2 = 0 := by
  have hp := l_par hm h
  constructor
  · intro q
    rw [q] at hp
    have : (0 : Int64).toInt = 0 := rfl
    rw [this] at hp
    split at hp <;> omega
  · intro q
    refine Int64.toInt.inj ?_
    rw [hp, q]
    split <;> rfl
theorem l_odd1 {n : Int64} {m : Nat} (hm : m ≤ 2 ^ 53) (h : n.toInt = (m : Int)) : n - n / 2 * 2 = 1 ↔ m % 2 = 1 := by
  have hp := l_par hm (Or.inl h)
  rw [if_pos h] at hp
  constructor
  · intro q
    rw [q] at hp
    have : (1 : Int64).toInt = 1 := rfl
    omega
  · intro q
    refine Int64.toInt.inj ?_
    rw [hp, q]; rfl
theorem l_add1 {n : Int64} (h : n.toInt.natAbs ≤ 2 ^ 53) : (n + 1).toInt = n.toInt + 1 := FP.Core.int64_add (b := 1) (by have : (1 : Int64).toInt = 1 := rfl; omega) (by have : (1 : Int64).toInt = 1 := rfl; omega)
theorem l_sub1 {n : Int64} (h : n.toInt.natAbs ≤ 2 ^ 53) : (n - 1).toInt = n.toInt - 1 := FP.Core.int64_sub (b := 1) (by have : (1 : Int64).toInt = 1 := rfl; omega) (by have : (1 : Int64).toInt = 1 := rfl; omega)
/-- (long) y, as whole units: m of them, and what is over -/
theorem z_trunc {y : UInt64} (h : dOK y) : ∃ m : Nat, m ≤ 1000000000000000 ∧ m * zU ≤ zm y ∧ zm y < m * zU + zU ∧ zm y % zU = zm y - m * zU ∧ m = zm y / zU ∧ ((zs y = true ∧ (FP.d2l y).toInt = -(m : Int)) ∨ (zs y = false ∧ (FP.d2l y).toInt = (m : Int))) := by
  obtain ⟨h1, h2⟩ := z_d2l h
  have hU := zU_pos
  have h3 := Nat.div_add_mod (zm y) zU
  have h4 := Nat.mod_lt (zm y) hU
  rw [Nat.mul_comm] at h3
  refine ⟨zm y / zU, h2, by omega, by omega, by omega, rfl, ?_⟩
  cases hs : zs y
  · rw [hs, if_neg (by decide)] at h1; exact Or.inr ⟨rfl, h1⟩
  · rw [hs, if_pos rfl] at h1; exact Or.inl ⟨rfl, h1⟩
theorem z_l2dn {n : Int64} {k : Int} (h : n.toInt = k) (hk : k.natAbs ≤ 2 ^ 53) : zv (FP.l2d n) = k * (zU : Int) := by
  rw [z_l2d (by rw [h]; exact hk), h]
/-- whole numbers: one more, one less -/
theorem z_inc {n : Int64} (h : n.toInt.natAbs ≤ 2 ^ 52) : zv (FP.dadd (FP.l2d n) FP.dconst1) = (n.toInt + 1) * (zU : Int) ∧ DF (FP.dadd (FP.l2d n) FP.dconst1) := by
  have e := z_l2dn (n := n + 1) (l_add1 (by omega)) (by omega)
  obtain ⟨a1, a2⟩ := z_add (V := FP.l2d (n + 1)) (DF_l2d n) DF_one (DF_l2d _) (by rw [e, z_l2d (by omega), z_1.2, Int.add_mul]; omega)
  exact ⟨by rw [a1, e], a2⟩
theorem z_dec {n : Int64} (h : n.toInt.natAbs ≤ 2 ^ 52) : zv (FP.dsub (FP.l2d n) FP.dconst1) = (n.toInt - 1) * (zU : Int) ∧ DF (FP.dsub (FP.l2d n) FP.dconst1) := by
  have e := z_l2dn (n := n - 1) (l_sub1 (by omega)) (by omega)
  obtain ⟨a1, a2⟩ := z_sub (V := FP.l2d (n - 1)) (DF_l2d n) DF_one (DF_l2d _) (by rw [e, z_l2d (by omega), z_1.2, Int.sub_mul]; omega)
  exact ⟨by rw [a1, e], a2⟩
theorem mSigned0_nz {x y : UInt64} (hx : DF x) (h : ¬ zv x = 0) : mSigned0 x y = x := by
  unfold mSigned0
  rw [if_neg (fun q => h (by have := (zc_eq hx DF_zero).mp q; rw [z_0.2.2] at this; exact this))]
theorem mSigned0_z {x y : UInt64} (hx : DF x) (hy : DF y) (h : zv x = 0) : zs (mSigned0 x y) = zs y ∧ zm (mSigned0 x y) = 0 ∧ DF (mSigned0 x y) := by
  unfold mSigned0
  rw [if_pos ((zc_eq hx DF_zero).mpr (by rw [z_0.2.2]; exact h)), sMin_zs hy]
  have hz : zm x = 0 := by rw [zm_of_zv h]; rfl
  obtain ⟨a, b⟩ := zs_signed hx (b := zs y)
  exact ⟨a, by rw [b, hz], DF_signed hx _⟩
/-- the whole number below: both sides' -/
theorem below_eq {y : UInt64} (h : dOK y) : sBelow y = mLower y := by
  obtain ⟨m, m1, m2, m3, m4, m5, m6⟩ := z_trunc h
  have hy := h.1
  have hU := zU_pos
  have hab := (z_d2l_abs h).2
  have eW := z_l2d (n := FP.d2l y) (by omega)
  have dW := DF_l2d (FP.d2l y)
  obtain ⟨d1, d2⟩ := z_dec (n := FP.d2l y) (by omega)
  unfold sBelow mLower
  by_cases h0 : zv y = 0
  · rw [if_pos ((zc_eq hy DF_zero).mpr (by rw [z_0.2.2]; exact h0))]
    have hz : zm y = 0 := by rw [zm_of_zv h0]; rfl
    have hm : m = 0 := by rw [m5, hz]; exact Nat.zero_div _
    have hn : (FP.d2l y).toInt = 0 := by rcases m6 with q | q <;> omega
    rw [hn, Int.zero_mul] at eW
    rw [if_neg (fun q => by have := (zc_gt dW hy).mp q; omega)]
    obtain ⟨a1, a2, a3⟩ := mSigned0_z dW hy eW
    exact z_ext hy a3 a1.symm (by rw [a2, hz])
  · rw [if_neg (fun q => h0 (by have := (zc_eq hy DF_zero).mp q; rw [z_0.2.2] at this; exact this))]
    by_cases hg : FP.dcmp (FP.l2d (FP.d2l y)) y = some .gt
    · rw [if_pos hg]
      have hlt := (zc_gt dW hy).mp hg
      rw [mSigned0_nz d2]
      rw [d1]
      intro q
      rcases Int.mul_eq_zero.mp q with q | q
      · have hn : (FP.d2l y).toInt = 1 := by omega
        rcases m6 with z | z
        · omega
        · have hm : m = 1 := by omega
          subst hm
          rw [hn] at eW
          rcases zv_cases y with ⟨y1, y2⟩ | ⟨y1, y2⟩
          · rw [z.1] at y1; cases y1
          · omega
      · omega
    · rw [if_neg hg]
      by_cases hz : zv (FP.l2d (FP.d2l y)) = 0
      · obtain ⟨a1, a2, a3⟩ := mSigned0_z dW hy hz
        have hle : ¬ zv y < zv (FP.l2d (FP.d2l y)) := fun q => hg ((zc_gt dW hy).mpr q)
        have hsy : zs y = false := by
          rcases zv_cases y with ⟨y1, y2⟩ | ⟨y1, y2⟩
          · omega
          · exact y1
        have hn : (FP.d2l y).toInt = 0 := by
          rw [eW] at hz
          rcases Int.mul_eq_zero.mp hz with q | q
          · exact q
          · omega
        refine z_ext dW a3 ?_ (by rw [a2, zm_of_zv hz]; rfl)
        rw [a1, hsy, zs_l2d, hn]
        rfl
      · rw [mSigned0_nz dW hz]
theorem dOK_d2l_neg {y : UInt64} (h : dOK y) : (FP.d2l (FP.dneg y)).toInt = -(FP.d2l y).toInt := by
  have h1 := (z_d2l h).1
  have h2 := (z_d2l (dOK_neg h)).1
  obtain ⟨n1, n2⟩ := z_negs h.1
  rw [n1, n2] at h2
  rw [h1, h2]
  cases zs y <;> simp
/-- the whole number above -/
theorem above_eq {y : UInt64} (h : dOK y) : FP.dneg (sBelow (FP.dneg y)) = mUpper y := by
  obtain ⟨m, m1, m2, m3, m4, m5, m6⟩ := z_trunc h
  have hy := h.1
  have hny := DF_neg hy
  have hU := zU_pos
  have hab := (z_d2l_abs h).2
  have eN := dOK_d2l_neg h
  have eW := z_l2d (n := FP.d2l y) (by omega)
  have eW' := z_l2d (n := FP.d2l (FP.dneg y)) (by omega)
  rw [eN] at eW'
  have dW := DF_l2d (FP.d2l y)
  have dW' := DF_l2d (FP.d2l (FP.dneg y))
  obtain ⟨d1, d2⟩ := z_dec (n := FP.d2l (FP.dneg y)) (by omega)
  obtain ⟨i1, i2⟩ := z_inc (n := FP.d2l y) (by omega)
  have ny := z_negv hy
  rw [eN] at d1
  unfold sBelow mUpper
  by_cases h0 : zv y = 0
  · rw [if_pos ((zc_eq hny DF_zero).mpr (by rw [z_0.2.2, ny, h0]; rfl))]
    have hz : zm y = 0 := by rw [zm_of_zv h0]; rfl
    have hm : m = 0 := by rw [m5, hz]; exact Nat.zero_div _
    have hn : (FP.d2l y).toInt = 0 := by rcases m6 with q | q <;> omega
    rw [hn, Int.zero_mul] at eW
    rw [if_neg (fun q => by have := (zc_lt dW hy).mp q; omega)]
    obtain ⟨a1, a2, a3⟩ := mSigned0_z dW hy eW
    obtain ⟨b1, b2⟩ := z_negs hny
    obtain ⟨c1, c2⟩ := z_negs hy
    exact z_ext (DF_neg hny) a3 (by rw [a1, b1, c1, Bool.not_not]) (by rw [a2, b2, c2, hz])
  · rw [if_neg (fun q => h0 (by have := (zc_eq hny DF_zero).mp q; rw [z_0.2.2, ny] at this; omega))]
    have hiff : FP.dcmp (FP.l2d (FP.d2l (FP.dneg y))) (FP.dneg y) = some .gt ↔ FP.dcmp (FP.l2d (FP.d2l y)) y = some .lt := by
      rw [zc_gt dW' hny, zc_lt dW hy, eW, eW', ny, Int.neg_mul]
      omega
    by_cases hl : FP.dcmp (FP.l2d (FP.d2l y)) y = some .lt
    · rw [if_pos (hiff.mpr hl), if_pos hl]
      have hlt := (zc_lt dW hy).mp hl
      have hsy : zs y = false ∧ (FP.d2l y).toInt = (m : Int) := by
        rcases m6 with z | z
        · exfalso
          rcases zv_cases y with ⟨y1, y2⟩ | ⟨y1, y2⟩
          · rw [eW, z.2, Int.neg_mul, y2] at hlt
            have : ((m * zU : Nat) : Int) = (m : Int) * (zU : Int) := by push_cast; rfl
            omega
          · rw [z.1] at y1; cases y1
        · exact z
      have hpos : (0 : Int) < ((FP.d2l y).toInt + 1) * (zU : Int) := Int.mul_pos (by omega) (by omega)
      rw [mSigned0_nz i2 (by rw [i1]; omega)]
      refine z_extv (DF_neg d2) i2 ?_ ?_
      · rw [z_negv d2, d1, i1, ← Int.neg_mul]
        congr 1
        omega
      · rw [z_negv d2, d1, ← Int.neg_mul, show -(-(FP.d2l y).toInt - 1) = (FP.d2l y).toInt + 1 by omega]
        omega
    · rw [if_neg (fun q => hl (hiff.mp q)), if_neg hl]
      have hle : ¬ zv (FP.l2d (FP.d2l y)) < zv y := fun q => hl ((zc_lt dW hy).mpr q)
      by_cases hz : zv (FP.l2d (FP.d2l y)) = 0
      · obtain ⟨a1, a2, a3⟩ := mSigned0_z dW hy hz
        have hsy : zs y = true := by
          rcases zv_cases y with ⟨y1, y2⟩ | ⟨y1, y2⟩
          · exact y1
          · omega
        have hn : (FP.d2l y).toInt = 0 := by
          rw [eW] at hz
          rcases Int.mul_eq_zero.mp hz with q | q
          · exact q
          · omega
        obtain ⟨b1, b2⟩ := z_negs dW'
        refine z_ext (DF_neg dW') a3 ?_ ?_
        · rw [b1, a1, hsy, zs_l2d, eN, hn]; rfl
        · rw [b2, a2, zm_of_zv eW', hn]; simp
      · rw [mSigned0_nz dW hz]
        refine z_extv (DF_neg dW') dW ?_ ?_
        · rw [z_negv dW', eW', eW, Int.neg_mul, Int.neg_neg]
        · rw [z_negv dW', eW', Int.neg_mul, Int.neg_neg, ← eW]; exact hz
