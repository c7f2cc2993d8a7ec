/-! ===== doubles as sign and magnitude (in units of the least double) ===== -/
def zs (a : UInt64) : Bool := FP.Core.sgn (FP.Core.val64 a)
def zm (a : UInt64) : Nat := FP.Core.zmag FP.Core.b64 (FP.Core.val64 a)
def zv (a : UInt64) : Int := FP.Core.zval FP.Core.b64 (FP.Core.val64 a)
def zU : Nat := FP.Core.one64
def zT : Nat := FP.Core.b64.tails * 2 ^ (FP.Core.b64.exps - 2)
theorem zU_pos : 0 < zU := FP.Core.one64_pos
theorem zv_eq (a : UInt64) : zv a = if zs a = true then -(zm a : Int) else (zm a : Int) := rfl
theorem zv_cases (a : UInt64) : (zs a = true ∧ zv a = -(zm a : Int)) ∨ (zs a = false ∧ zv a = (zm a : Int)) := by
  rw [zv_eq]
  cases h : zs a
  · exact Or.inr ⟨rfl, if_neg (by decide)⟩
  · exact Or.inl ⟨rfl, if_pos rfl⟩
theorem zm_lt {a : UInt64} (h : DF a) : zm a < zT := FP.Core.DFin.zval_lt h
theorem DF_of_zm {a : UInt64} (h : FP.Core.val64 a ≠ .nan) (h2 : zm a < zT) : DF a := by
  unfold zm zT at h2
  cases e : FP.Core.val64 a with
  | nan => exact absurd e h
  | inf s => rw [e] at h2; exact absurd h2 (Nat.lt_irrefl _)
  | fin s c q => exact ⟨s, c, q, e⟩
theorem zm_bits {a : UInt64} (h : DF a) : zm a = FP.Core.unitsOf FP.Core.b64 (a.toNat % 2 ^ 63) := FP.Core.zmag_bits h.nn
theorem zs_bits {a : UInt64} (h : DF a) : zs a = decide (2 ^ 63 ≤ a.toNat) := FP.Core.sgn_bits h.nn
theorem z_ext {a b : UInt64} (ha : DF a) (hb : DF b) (h1 : zs a = zs b) (h2 : zm a = zm b) : a = b := by
  rw [zm_bits ha, zm_bits hb] at h2
  have h3 : a.toNat % 2 ^ 63 = b.toNat % 2 ^ 63 := Nat.le_antisymm (FP.Core.unitsOf_le_iff.mp (Nat.le_of_eq h2)) (FP.Core.unitsOf_le_iff.mp (Nat.le_of_eq h2.symm))
  rw [zs_bits ha, zs_bits hb] at h1
  have h4 : (2 ^ 63 ≤ a.toNat) ↔ (2 ^ 63 ≤ b.toNat) := by simpa using h1
  have := a.toNat_lt
  have := b.toNat_lt
  exact UInt64.toNat.inj (by omega)
theorem z_extv {a b : UInt64} (ha : DF a) (hb : DF b) (h : zv a = zv b) (h0 : ¬ zv a = 0) : a = b := by
  rcases zv_cases a with ⟨a1, a2⟩ | ⟨a1, a2⟩ <;> rcases zv_cases b with ⟨b1, b2⟩ | ⟨b1, b2⟩
  · exact z_ext ha hb (by rw [a1, b1]) (by omega)
  · omega
  · omega
  · exact z_ext ha hb (by rw [a1, b1]) (by omega)
theorem z_negs {a : UInt64} (h : DF a) : zs (FP.dneg a) = !zs a ∧ zm (FP.dneg a) = zm a := by
  obtain ⟨s, c, q, e⟩ := h
  unfold zs zm
  rw [FP.val64_dneg, e]
  exact ⟨rfl, rfl⟩
theorem z_negv {a : UInt64} (h : DF a) : zv (FP.dneg a) = -zv a := by
  unfold zv
  rw [FP.val64_dneg]
  exact FP.Core.zval_negate _ _
theorem zc_lt {a b : UInt64} (ha : DF a) (hb : DF b) : FP.dcmp a b = some .lt ↔ zv a < zv b := ⟨fun h => (FP.Core.dcmp_lt.mp h).2.2, fun h => FP.Core.dcmp_lt.mpr ⟨ha.nn, hb.nn, h⟩⟩
theorem zc_gt {a b : UInt64} (ha : DF a) (hb : DF b) : FP.dcmp a b = some .gt ↔ zv b < zv a := ⟨fun h => (FP.Core.dcmp_gt.mp h).2.2, fun h => FP.Core.dcmp_gt.mpr ⟨ha.nn, hb.nn, h⟩⟩
theorem zc_eq {a b : UInt64} (ha : DF a) (hb : DF b) : FP.dcmp a b = some .eq ↔ zv a = zv b := ⟨fun h => (FP.Core.dcmp_eq.mp h).2.2, fun h => FP.Core.dcmp_eq.mpr ⟨ha.nn, hb.nn, h⟩⟩
theorem z_0 : zs FP.dconst0 = false ∧ zm FP.dconst0 = 0 ∧ zv FP.dconst0 = 0 := by
  refine ⟨?_, ?_, ?_⟩ <;> decide +kernel
theorem z_1 : zs FP.dconst1 = false ∧ zv FP.dconst1 = (zU : Int) := by
  refine ⟨?_, ?_⟩ <;> decide +kernel
theorem z_most : zv dMost = 1000000000000000 * (zU : Int) := by decide +kernel
theorem z_least : zv dLeast = -(1000000000000000 * (zU : Int)) := by decide +kernel
theorem DF_most : DF dMost := (FP.Core.fin_bits _).mpr (by decide)
theorem DF_least : DF dLeast := (FP.Core.fin_bits _).mpr (by decide)
theorem dOK_iff {x : UInt64} : dOK x ↔ DF x ∧ zm x ≤ 1000000000000000 * zU := by
  unfold dOK
  refine and_congr_right (fun h => ?_)
  unfold fBeyond
  rw [zc_gt h DF_most, zc_lt h DF_least, z_most, z_least]
  rcases zv_cases x with ⟨a1, a2⟩ | ⟨a1, a2⟩ <;> omega
theorem big_lt : 1000000000000000 * zU < zT := by decide +kernel
theorem dOK_mk {x : UInt64} (h : FP.Core.val64 x ≠ .nan) (h2 : zm x ≤ 1000000000000000 * zU) : dOK x := dOK_iff.mpr ⟨DF_of_zm h (Nat.lt_of_le_of_lt h2 big_lt), h2⟩
theorem z_i2d (x : Int32) : zv (FP.i2d x) = x.toInt * (zU : Int) := FP.Core.DInt_zval (FP.Core.i2d_int x)
theorem z_l2d {n : Int64} (h : n.toInt.natAbs ≤ 2 ^ 53) : zv (FP.l2d n) = n.toInt * (zU : Int) := FP.Core.DInt_zval (FP.Core.l2d_int h)
theorem zs_l2d (n : Int64) : zs (FP.l2d n) = decide (n.toInt < 0) := by
  obtain ⟨c, q, e⟩ := FP.Core.l2d_shape n
  unfold zs
  rw [show FP.Core.val64 (FP.l2d n) = _ from e]
  rfl
theorem zm_of_zv {a : UInt64} {n : Int} (h : zv a = n) : zm a = n.natAbs := by
  rcases zv_cases a with ⟨a1, a2⟩ | ⟨a1, a2⟩ <;> omega
theorem zm_i2d (x : Int32) : zm (FP.i2d x) = x.toInt.natAbs * zU := by rw [zm_of_zv (z_i2d x), Int.natAbs_mul, Int.natAbs_natCast]
theorem zm_l2d {n : Int64} (h : n.toInt.natAbs ≤ 2 ^ 53) : zm (FP.l2d n) = n.toInt.natAbs * zU := by rw [zm_of_zv (z_l2d h), Int.natAbs_mul, Int.natAbs_natCast]
theorem dOK_i2d (x : Int32) : dOK (FP.i2d x) := by
  refine dOK_iff.mpr ⟨DF_i2d x, ?_⟩
  rw [zm_i2d]
  exact Nat.mul_le_mul_right _ (by have := FP.Core.int32_abs x; omega)
theorem dOK_l2d {n : Int64} (h : n.toInt.natAbs ≤ 1000000000000000) : dOK (FP.l2d n) := by
  refine dOK_iff.mpr ⟨DF_l2d n, ?_⟩
  rw [zm_l2d (by omega)]
  exact Nat.mul_le_mul_right _ h
theorem dOK_0 : dOK FP.dconst0 := dOK_iff.mpr ⟨DF_zero, by rw [z_0.2.1]; exact Nat.zero_le _⟩
theorem dOK_1 : dOK FP.dconst1 := by
  refine dOK_iff.mpr ⟨DF_one, ?_⟩
  rw [zm_of_zv z_1.2, Int.natAbs_natCast]
  exact Nat.le_mul_of_pos_left _ (by decide)
theorem dOK_neg {x : UInt64} (h : dOK x) : dOK (FP.dneg x) := by
  obtain ⟨h1, h2⟩ := dOK_iff.mp h
  exact dOK_iff.mpr ⟨DF_neg h1, by rw [(z_negs h1).2]; exact h2⟩
/-- (long) y: towards 0 -/
theorem z_d2l {y : UInt64} (h : dOK y) : (FP.d2l y).toInt = (if zs y = true then -((zm y / zU : Nat) : Int) else ((zm y / zU : Nat) : Int)) ∧ zm y / zU ≤ 1000000000000000 := by
  obtain ⟨h1, h2⟩ := dOK_iff.mp h
  have h3 : zm y / zU ≤ 1000000000000000 := by
    rw [Nat.mul_comm] at h2
    exact Nat.div_le_of_le_mul h2
  refine ⟨?_, h3⟩
  have h4 : (FP.d2l y).toInt = max (-2 ^ 63) (min (2 ^ 63 - 1) (if zs y = true then -((zm y / zU : Nat) : Int) else ((zm y / zU : Nat) : Int))) := FP.Core.d2l_val h1.nn
  rw [h4]
  generalize zm y / zU = m at *
  cases zs y
  · rw [if_neg (by decide)]; omega
  · rw [if_pos rfl]; omega
theorem z_d2l_abs {y : UInt64} (h : dOK y) : (FP.d2l y).toInt.natAbs = zm y / zU ∧ (FP.d2l y).toInt.natAbs ≤ 1000000000000000 := by
  obtain ⟨h1, h2⟩ := z_d2l h
  rw [h1]
  generalize zm y / zU = m at *
  cases zs y
  · rw [if_neg (by decide)]; omega
  · rw [if_pos rfl]; omega
theorem dOK_long {y : UInt64} (h : dOK y) : dOK (FP.l2d (FP.d2l y)) := dOK_l2d (z_d2l_abs h).2
/-- signs -/
theorem sMin_zs {x : UInt64} (h : DF x) : sMin x = if zs x = true then 1 else 0 := by
  unfold sMin
  simp only [zc_lt h DF_zero, zc_eq h DF_zero, z_0.2.2]
  by_cases h0 : zv x = 0
  · rw [if_neg (by omega), if_pos h0]
    have hz : zm x = 0 := by rcases zv_cases x with ⟨a1, a2⟩ | ⟨a1, a2⟩ <;> omega
    obtain ⟨s, c, q, e⟩ := id h
    have hc : c = 0 := by
      unfold zm at hz
      rw [e] at hz
      have hz' : c * 2 ^ (q - FP.Core.b64.qmin).toNat = 0 := hz
      rcases Nat.mul_eq_zero.mp hz' with k | k
      · exact k
      · exact absurd k (Nat.ne_of_gt (Nat.two_pow_pos _))
    have hq : FP.Core.val64 (FP.ddiv FP.dconst1 x) = .inf (false != s) := by
      rw [show FP.Core.val64 (FP.ddiv FP.dconst1 x) = _ from FP.Core.val64_ddiv _ _, e, show FP.Core.val64 FP.dconst1 = _ from FP.Core.val64_dconst1, hc]
      rfl
    have hs : zs x = s := by unfold zs; rw [e]; rfl
    rw [hs]
    cases s
    · have hn : ¬ FP.dcmp (FP.ddiv FP.dconst1 x) FP.dconst0 = some .lt := by
        intro k
        have hk := (FP.Core.dcmp_lt.mp k).2.2
        rw [hq] at hk
        exact absurd hk (by decide +kernel)
      rw [if_neg hn]
      rfl
    · have hn : FP.dcmp (FP.ddiv FP.dconst1 x) FP.dconst0 = some .lt := by
        refine FP.Core.dcmp_lt.mpr ⟨?_, DF_zero.nn, ?_⟩
        · rw [hq]; exact fun k => FP.Core.Datum.noConfusion k
        · rw [hq]; decide +kernel
      rw [if_pos hn]
      rfl
  · rw [if_neg (c := zv x = 0) h0]
    rcases zv_cases x with ⟨a1, a2⟩ | ⟨a1, a2⟩
    · rw [if_pos (by omega), if_pos a1]
    · rw [if_neg (by omega), if_neg (by rw [a1]; decide)]
theorem zs_signed {x : UInt64} (h : DF x) {b : Bool} : zs (mSigned x (if b = true then 1 else 0)) = b ∧ zm (mSigned x (if b = true then 1 else 0)) = zm x := by
  unfold mSigned
  rw [sMin_zs h]
  obtain ⟨n1, n2⟩ := z_negs h
  cases hs : zs x <;> cases b
  · simp [hs]
  · simp [hs, n1, n2]
  · simp [hs, n1, n2]
  · simp [hs]
/-! sums that are exact -/
theorem z_add {a b V : UInt64} (ha : DF a) (hb : DF b) (hV : DF V) (h : zv V = zv a + zv b) : zv (FP.dadd a b) = zv V ∧ DF (FP.dadd a b) := by
  have e : FP.Core.val64 (FP.dadd a b) = _ := FP.Core.val64_dadd a b
  have h1 : zv (FP.dadd a b) ≤ zv V := by
    unfold zv at h ⊢
    rw [e]
    exact FP.Core.sum_le FP.Core.good_b64 ha hb (FP.Core.val64_fits a) (FP.Core.val64_fits b) (FP.Core.val64_fits V) hV.nn (by omega)
  have h2 : zv V ≤ zv (FP.dadd a b) := by
    unfold zv at h ⊢
    rw [e]
    exact FP.Core.sum_ge FP.Core.good_b64 ha hb (FP.Core.val64_fits a) (FP.Core.val64_fits b) (FP.Core.val64_fits V) hV.nn (by omega)
  have h3 : zv (FP.dadd a b) = zv V := by omega
  refine ⟨h3, DF_of_zm ?_ ?_⟩
  · obtain ⟨s, c, q, e1⟩ := ha
    obtain ⟨t, d, r, e2⟩ := hb
    rw [e, e1, e2]
    exact fun k => by have := FP.Core.round_nan.mp k; cases this
  · rw [zm_of_zv h3]
    have := zm_lt hV
    have := zm_of_zv (rfl : zv V = zv V)
    omega
theorem zx_sub {a b : UInt64} : ∃ d : FP.Core.Datum, FP.Core.val64 (FP.dsub a b) = FP.Core.round FP.Core.b64 (FP.Core.exactSum (FP.Core.val64 a) (FP.Core.negate (FP.Core.val64 b))) ∧ d = FP.Core.negate (FP.Core.val64 b) := ⟨_, FP.Core.val64_dsub a b, rfl⟩
theorem z_sub_le {a b V : UInt64} (ha : DF a) (hb : DF b) (hV : DF V) (h : zv a - zv b ≤ zv V) : zv (FP.dsub a b) ≤ zv V := by
  have e : FP.Core.val64 (FP.dsub a b) = _ := FP.Core.val64_dsub a b
  obtain ⟨t, d, r, e2⟩ := hb
  unfold zv at h ⊢
  rw [e]
  refine FP.Core.sum_le FP.Core.good_b64 ha ⟨!t, d, r, by rw [e2]; rfl⟩ (FP.Core.val64_fits a) (FP.Core.negate_fits (FP.Core.val64_fits b)) (FP.Core.val64_fits V) hV.nn ?_
  rw [FP.Core.zval_negate]
  omega
theorem z_sub_ge {a b V : UInt64} (ha : DF a) (hb : DF b) (hV : DF V) (h : zv V ≤ zv a - zv b) : zv V ≤ zv (FP.dsub a b) := by
  have e : FP.Core.val64 (FP.dsub a b) = _ := FP.Core.val64_dsub a b
  obtain ⟨t, d, r, e2⟩ := hb
  unfold zv at h ⊢
  rw [e]
  refine FP.Core.sum_ge FP.Core.good_b64 ha ⟨!t, d, r, by rw [e2]; rfl⟩ (FP.Core.val64_fits a) (FP.Core.negate_fits (FP.Core.val64_fits b)) (FP.Core.val64_fits V) hV.nn ?_
  rw [FP.Core.zval_negate]
  omega
theorem nn_subv {a b : UInt64} (ha : DF a) (hb : DF b) : FP.Core.val64 (FP.dsub a b) ≠ .nan := by
  obtain ⟨s, c, q, e1⟩ := ha
  obtain ⟨t, d, r, e2⟩ := hb
  rw [show FP.Core.val64 (FP.dsub a b) = _ from FP.Core.val64_dsub a b, e1, e2]
  exact fun k => by have := FP.Core.round_nan.mp k; cases this
theorem z_sub {a b V : UInt64} (ha : DF a) (hb : DF b) (hV : DF V) (h : zv V = zv a - zv b) : zv (FP.dsub a b) = zv V ∧ DF (FP.dsub a b) := by
  have h1 := z_sub_le ha hb hV (by omega)
  have h2 := z_sub_ge ha hb hV (by omega)
  have h3 : zv (FP.dsub a b) = zv V := by omega
  refine ⟨h3, DF_of_zm (nn_subv ha hb) ?_⟩
  rw [zm_of_zv h3]
  have := zm_lt hV
  have := zm_of_zv (rfl : zv V = zv V)
  omega
/-- a difference that is 0 is no -0, where what it is taken from has no minus -/
theorem zs_sub {a b : UInt64} (ha : DF a) (hb : DF b) (hs : zs a = false) (h : zv b ≤ zv a) : zs (FP.dsub a b) = false := by
  obtain ⟨s, c, q, e1⟩ := id ha
  obtain ⟨t, d, r, e2⟩ := id hb
  have hs' : s = false := by unfold zs at hs; rw [e1] at hs; exact hs
  have e3 : FP.Core.exactSum (FP.Core.val64 a) (FP.Core.negate (FP.Core.val64 b)) = _ := rfl
  obtain ⟨sg, n, e, k1, k2, k3⟩ := FP.Core.sum_units (f := FP.Core.b64) (s := s) (t := !t) (c := c) (d := d) (q := q) (r := r) (by rw [← e1]; exact FP.Core.val64_fits a) (by have := FP.Core.negate_fits (FP.Core.val64_fits b); rw [e2] at this; exact this)
  unfold zs
  rw [show FP.Core.val64 (FP.dsub a b) = _ from FP.Core.val64_dsub a b, e1, e2]
  show FP.Core.sgn (FP.Core.roundRatio FP.Core.b64 (FP.Core.sumSign s (!t) (FP.Core.sumUnits s c q (!t) d r (min q r))) _ 1 _) = false
  rw [FP.Core.sgn_roundRatio]
  by_cases hv : zs (FP.dsub a b) = false
  · unfold zs at hv
    rw [show FP.Core.val64 (FP.dsub a b) = _ from FP.Core.val64_dsub a b, e1, e2] at hv
    have hv' : FP.Core.sgn (FP.Core.roundRatio FP.Core.b64 (FP.Core.sumSign s (!t) (FP.Core.sumUnits s c q (!t) d r (min q r))) (FP.Core.sumUnits s c q (!t) d r (min q r)).natAbs 1 (min q r)) = false := hv
    rw [FP.Core.sgn_roundRatio] at hv'
    exact hv'
  · have k4 := congrArg (FP.Core.zval FP.Core.b64) k1
    unfold FP.Core.sumSign
    split
    · rw [hs']; rfl
    · rename_i hne
      rw [decide_eq_false_iff_not]
      intro hlt
      -- the exact sum is at least 0
      have hz : (FP.Core.sumUnits s c q (!t) d r (min q r)) * ((2 ^ (min q r - FP.Core.b64.qmin).toNat : Nat) : Int) = zv a - zv b := by
        have fa : FP.Core.fits FP.Core.b64 (.fin s c q) := by rw [← e1]; exact FP.Core.val64_fits a
        have fb : FP.Core.fits FP.Core.b64 (.fin t d r) := by rw [← e2]; exact FP.Core.val64_fits b
        have hq : FP.Core.b64.qmin ≤ q := fa.2.1
        have hr : FP.Core.b64.qmin ≤ r := fb.2.1
        unfold FP.Core.sumUnits zv
        rw [e1, e2]
        show _ = FP.Core.signed s (FP.Core.inUnits c q FP.Core.b64.qmin) - FP.Core.signed t (FP.Core.inUnits d r FP.Core.b64.qmin)
        rw [Int.add_mul, ← FP.Core.signed_mul, ← FP.Core.signed_mul, ← FP.Core.inUnits_move c (by omega) (by omega), ← FP.Core.inUnits_move d (by omega) (by omega), FP.Core.signed_not]
        omega
      have hp : (0 : Int) < ((2 ^ (min q r - FP.Core.b64.qmin).toNat : Nat) : Int) := by exact_mod_cast Nat.two_pow_pos _
      have := Int.mul_neg_of_neg_of_pos hlt hp
      omega
