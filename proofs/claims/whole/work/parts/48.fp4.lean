theorem dOK_nb {v : UInt64} (h : FP.Core.val64 v ≠ .nan) (hb : ¬ fBeyond v) : dOK v := by
  have h1 : ¬ zv dMost < zv v := fun q => hb (Or.inl (FP.Core.dcmp_gt.mpr ⟨h, DF_most.nn, q⟩))
  have h2 : ¬ zv v < zv dLeast := fun q => hb (Or.inr (FP.Core.dcmp_lt.mpr ⟨h, DF_least.nn, q⟩))
  rw [z_most] at h1
  rw [z_least] at h2
  refine dOK_mk h ?_
  rcases zv_cases v with q | q <;> omega
theorem nv_add {a b : UInt64} (ha : DF a) (hb : DF b) : FP.Core.val64 (FP.dadd a b) ≠ .nan := by
  obtain ⟨s, c, q, e1⟩ := ha
  obtain ⟨t, d, r, e2⟩ := hb
  rw [show FP.Core.val64 (FP.dadd a b) = _ from FP.Core.val64_dadd a b, e1, e2]
  exact fun k => by have := FP.Core.round_nan.mp k; cases this
theorem nv_mul {a b : UInt64} (ha : DF a) (hb : DF b) : FP.Core.val64 (FP.dmul a b) ≠ .nan := by
  obtain ⟨s, c, q, e1⟩ := ha
  obtain ⟨t, d, r, e2⟩ := hb
  rw [show FP.Core.val64 (FP.dmul a b) = _ from FP.Core.val64_dmul a b, e1, e2]
  exact fun k => by have := FP.Core.round_nan.mp k; cases this
theorem nv_div {a b : UInt64} (ha : DF a) (hb : DF b) (h0 : ¬ zm b = 0) : FP.Core.val64 (FP.ddiv a b) ≠ .nan := by
  have hz : ¬ FP.Core.DZero b := fun q => h0 ((DZ_zm hb).mp q)
  obtain ⟨s, c, q, e1⟩ := ha
  obtain ⟨t, d, r, e2⟩ := hb
  rw [show FP.Core.val64 (FP.ddiv a b) = _ from FP.Core.val64_ddiv a b, e1, e2]
  have hd : ¬ d = 0 := fun z => hz ⟨t, r, by rw [e2, z]⟩
  show (if d = 0 then _ else FP.Core.roundRatio _ _ _ _ _) ≠ _
  rw [if_neg hd]
  exact FP.Core.roundRatio_ne_nan _ _ _ _ _
theorem nz_zm {b : UInt64} (hb : DF b) (h : ¬ FP.dcmp b FP.dconst0 = some .eq) : ¬ zm b = 0 := fun q => nz_of h ((DZ_zm hb).mpr q)
/-! division by 2, 4, 8 .. -/
theorem z_div {a b : UInt64} {r : Int} (ha : DF a) (hb : FP.Core.val64 b = .fin false (2 ^ 52) r) (hr : -52 ≤ r) (hr2 : r ≤ 0) : FP.Core.val64 (FP.ddiv a b) ≠ .nan ∧ zs (FP.ddiv a b) = zs a ∧ zm (FP.ddiv a b) ≤ zm a ∧ ∀ V : UInt64, DF V → zm a * 2 ^ (-r).toNat = zm V * 2 ^ 52 → zm (FP.ddiv a b) = zm V := by
  have fa := FP.Core.val64_fits a
  obtain ⟨s, c, q, e1⟩ := id ha
  rw [e1] at fa
  have hq : FP.Core.b64.qmin ≤ q := fa.2.1
  have e : FP.Core.val64 (FP.ddiv a b) = FP.Core.roundRatio FP.Core.b64 (s != false) c (2 ^ 52) (q - r) := by
    rw [show FP.Core.val64 (FP.ddiv a b) = _ from FP.Core.val64_ddiv a b, e1, hb]
    have h52 : ¬ ((2 : Nat) ^ 52 = 0) := by decide
    simp only [FP.Core.quotient, if_neg h52]
  have hu : FP.Core.inUnits c (q - r) FP.Core.b64.qmin = zm a * 2 ^ (-r).toNat := by
    unfold zm
    rw [e1]
    show c * 2 ^ (q - r - FP.Core.b64.qmin).toNat = c * 2 ^ (q - FP.Core.b64.qmin).toNat * 2 ^ (-r).toNat
    rw [Nat.mul_assoc, ← Nat.pow_add]
    congr 2
    omega
  have h0 : (FP.Core.b64.qmin - FP.Core.b64.qmin).toNat = 0 := by omega
  have hz : zm (FP.ddiv a b) = FP.Core.zmag FP.Core.b64 (FP.Core.roundRatio FP.Core.b64 (s != false) c (2 ^ 52) (q - r)) := by unfold zm; rw [e]
  refine ⟨by rw [e]; exact FP.Core.roundRatio_ne_nan _ _ _ _ _, ?_, ?_, fun V hV hh => ?_⟩
  · unfold zs
    rw [e, FP.Core.sgn_roundRatio, e1]
    cases s <;> rfl
  · rw [hz]
    refine FP.Core.zmag_roundRatio_le FP.Core.good_b64 (V := FP.Core.val64 a) (e0 := FP.Core.b64.qmin) (by decide) (FP.Core.val64_fits a) ha.nn (Int.le_refl _) (by omega) ?_
    rw [hu, h0]
    rw [Nat.pow_zero, Nat.mul_one]
    exact Nat.mul_le_mul_left (zm a) (Nat.pow_le_pow_right (by decide) (by omega))
  · rw [hz]
    refine Nat.le_antisymm (FP.Core.zmag_roundRatio_le FP.Core.good_b64 (V := FP.Core.val64 V) (e0 := FP.Core.b64.qmin) (by decide) (FP.Core.val64_fits V) hV.nn (Int.le_refl _) (by omega) ?_) (FP.Core.zmag_roundRatio_ge FP.Core.good_b64 (V := FP.Core.val64 V) (e0 := FP.Core.b64.qmin) (by decide) (FP.Core.val64_fits V) (Int.le_refl _) (by omega) ?_)
    · rw [hu, h0, Nat.pow_zero, Nat.mul_one]
      exact Nat.le_of_eq hh
    · rw [hu, h0, Nat.pow_zero, Nat.mul_one]
      exact Nat.le_of_eq hh.symm
theorem val_8 : FP.Core.val64 dEight = .fin false (2 ^ 52) (-49) := by decide +kernel
def dTwo : UInt64 := 4611686018427387904
theorem val_2 : FP.Core.val64 dTwo = .fin false (2 ^ 52) (-51) := by decide +kernel
theorem DF_two : DF dTwo := ⟨_, _, _, val_2⟩
theorem two_nz : ¬ FP.Core.DZero dTwo := fun z => absurd ((FP.Core.zero_bits2 _).mp z) (by decide)
theorem dOK_eighth (x : Int32) : dOK (FP.ddiv (FP.i2d x) dEight) := by
  obtain ⟨h1, h2, h3, -⟩ := z_div (DF_i2d x) val_8 (by decide) (by decide)
  exact dOK_mk h1 (Nat.le_trans h3 (dOK_iff.mp (dOK_i2d x)).2)
theorem z_halve {a V : UInt64} (ha : DF a) (hV : DF V) (h : zm a = 2 * zm V) : zm (FP.ddiv a dTwo) = zm V ∧ zs (FP.ddiv a dTwo) = zs a ∧ DF (FP.ddiv a dTwo) := by
  obtain ⟨h1, h2, h3, h4⟩ := z_div ha val_2 (by decide) (by decide)
  have h5 := h4 V hV (by rw [h, show (- -51 : Int).toNat = 51 from rfl, Nat.mul_comm 2, Nat.mul_assoc, show (2 * 2 ^ 51 : Nat) = 2 ^ 52 by decide])
  exact ⟨h5, h2, DF_of_zm h1 (Nat.lt_of_le_of_lt h3 (zm_lt ha))⟩
theorem DF_halve {a : UInt64} (ha : DF a) : DF (FP.ddiv a dTwo) := by
  obtain ⟨h1, h2, h3, h4⟩ := z_div ha val_2 (by decide) (by decide)
  exact DF_of_zm h1 (Nat.lt_of_le_of_lt h3 (zm_lt ha))
/-! doubling -/
theorem dbl_room : 1000000000000000 * zU < FP.Core.b64.tails * 2 ^ (FP.Core.b64.qmax - FP.Core.b64.qmin).toNat := by decide +kernel
theorem z_rep2 {a : UInt64} (ha : DF a) (h : zm a ≤ 1000000000000000 * zU) : ∃ V : UInt64, DF V ∧ zs V = zs a ∧ zm V = 2 * zm a := by
  have fa := FP.Core.val64_fits a
  obtain ⟨s, c, q, e1⟩ := id ha
  rw [e1] at fa
  obtain ⟨f1, f2, f3, f4⟩ := fa
  have ht := FP.Core.two_tails FP.Core.good_b64
  have hza : zm a = c * 2 ^ (q - FP.Core.b64.qmin).toNat := by unfold zm; rw [e1]; rfl
  by_cases hc : c < FP.Core.b64.tails
  · have hq : q = FP.Core.b64.qmin := by
      rcases f4 with z | z
      · exact z
      · omega
    have fV : FP.Core.fits FP.Core.b64 (.fin s (2 * c) q) := ⟨by omega, f2, f3, Or.inl hq⟩
    have eV := FP.Core.val64_of64 fV
    refine ⟨FP.Core.of64 (.fin s (2 * c) q), ⟨_, _, _, eV⟩, ?_, ?_⟩
    · unfold zs; rw [eV, e1]; rfl
    · rw [hza]; unfold zm; rw [eV]
      show 2 * c * 2 ^ (q - FP.Core.b64.qmin).toNat = _
      rw [Nat.mul_assoc]
  · have hq3 : q + 1 ≤ FP.Core.b64.qmax := by
      rcases Int.lt_or_le q FP.Core.b64.qmax with z | z
      · omega
      · exfalso
        have h2 : FP.Core.b64.tails * 2 ^ (FP.Core.b64.qmax - FP.Core.b64.qmin).toNat ≤ c * 2 ^ (q - FP.Core.b64.qmin).toNat := Nat.mul_le_mul (by omega) (Nat.pow_le_pow_right (by decide) (by omega))
        have := dbl_room
        omega
    have fV : FP.Core.fits FP.Core.b64 (.fin s c (q + 1)) := ⟨f1, by omega, hq3, Or.inr (by omega)⟩
    have eV := FP.Core.val64_of64 fV
    refine ⟨FP.Core.of64 (.fin s c (q + 1)), ⟨_, _, _, eV⟩, ?_, ?_⟩
    · unfold zs; rw [eV, e1]; rfl
    · rw [hza]; unfold zm; rw [eV]
      show c * 2 ^ (q + 1 - FP.Core.b64.qmin).toNat = _
      rw [show (q + 1 - FP.Core.b64.qmin).toNat = (q - FP.Core.b64.qmin).toNat + 1 by omega, Nat.pow_succ]
      generalize 2 ^ (q - FP.Core.b64.qmin).toNat = X
      rw [Nat.mul_comm X 2, ← Nat.mul_assoc, Nat.mul_comm c 2, Nat.mul_assoc]
theorem z_dbl {a : UInt64} (ha : DF a) (hs : zs a = false) (h : zm a ≤ 1000000000000000 * zU) : DF (FP.dadd a a) ∧ zv (FP.dadd a a) = 2 * (zm a : Int) := by
  obtain ⟨V, v1, v2, v3⟩ := z_rep2 ha h
  have e1 : zv a = (zm a : Int) := by rcases zv_cases a with q | q; rw [hs] at q; cases q.1; exact q.2
  have e2 : zv V = (zm V : Int) := by rcases zv_cases V with q | q; rw [v2, hs] at q; cases q.1; exact q.2
  obtain ⟨a1, a2⟩ := z_add ha ha v1 (by rw [e2, v3, e1]; omega)
  exact ⟨a2, by rw [a1, e2, v3]; omega⟩
/-! the greater, the one without its sign -/
theorem great_eq {x y : UInt64} (hx : DF x) (hy : DF y) : (if sLess x y = 0 then x else y) = mGreat x y := by
  have hn := dcmp_nn hx hy
  unfold sLess mGreat
  rcases h : FP.dcmp x y with _ | o
  · exact absurd h hn
  · cases o
    · simp
    · rw [sMin_zs hx]; cases zs x <;> simp
    · simp
theorem with_1 {y : UInt64} : sWith y FP.dconst1 = mSigned y 0 := by
  unfold sWith mSigned
  rw [sMin_zs DF_one, z_1.1]
  rfl
