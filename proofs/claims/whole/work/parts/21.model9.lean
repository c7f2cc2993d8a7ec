theorem cmp_zero {x : UInt64} (hx : DF x) (h : FP.dcmp x FP.dconst0 = some .eq) : FP.Core.DZero x := by
  obtain ⟨s, c, q, e⟩ := hx
  have h2 : FP.Core.order (FP.Core.val64 x) (FP.Core.val64 FP.dconst0) = some .eq := h
  rw [e, show FP.Core.val64 FP.dconst0 = _ from FP.Core.val64_dconst0] at h2
  simp only [FP.Core.order, Option.some.injEq] at h2
  have h3 := Int.compare_eq_eq.mp h2
  have h4 : FP.Core.inUnits c q (min q FP.Core.b64.qmin) = 0 := by
    rw [← FP.Core.signed_eq_zero s]
    rw [h3]
    simp [FP.Core.inUnits, FP.Core.signed]
  unfold FP.Core.inUnits at h4
  have h5 : c = 0 := by
    rcases Nat.mul_eq_zero.mp h4 with z | z
    · exact z
    · exact absurd z (Nat.pos_iff_ne_zero.mp (Nat.two_pow_pos _))
  exact ⟨s, q, by rw [e, h5]⟩
theorem DZ_neg {x : UInt64} (h : FP.Core.DZero x) : FP.Core.DZero (FP.dneg x) := by
  obtain ⟨s, q, e⟩ := h
  exact ⟨!s, q, by rw [FP.val64_dneg, e]; rfl⟩
theorem DZ_signed {x : UInt64} (h : FP.Core.DZero x) (b : Int32) : FP.Core.DZero (mSigned x b) := by
  unfold mSigned
  split
  · exact h
  · exact DZ_neg h
theorem mag_signed0 {x : UInt64} (hx : DF x) (y : UInt64) {K : Nat} (hK : 0 < K) (h : x.toNat % 2 ^ 63 < K * 2 ^ 52) : (mSigned0 x y).toNat % 2 ^ 63 < K * 2 ^ 52 := by
  unfold mSigned0
  split
  · rename_i h0
    have := (FP.Core.zero_bits2 _).mp (DZ_signed (cmp_zero hx h0) (sMin y))
    rw [this]
    exact Nat.mul_pos hK (by decide)
  · exact h
theorem mag_lower (y : UInt64) : (mLower y).toNat % 2 ^ 63 < 1090 * 2 ^ 52 := by
  unfold mLower
  split
  · exact mag_signed0 (DF_l2d_sub _) y (by decide) (FP.Core.dsub_mag (FP.Core.l2d_mag _) DF_one_mag (by decide))
  · exact mag_signed0 (DF_l2d _) y (by decide) (Nat.lt_trans (FP.Core.l2d_mag _) (by decide))
theorem DF_near (y : UInt64) : DF (FP.dadd (mLower y) FP.dconst1) := FP.Core.fin_of_lt (FP.Core.dadd_mag (mag_lower y) (by decide) (by decide)) (by decide)
noncomputable def mNear (y : UInt64) : UInt64 := @ite _ (mUp y) (Classical.propDecidable _) (mSigned0 (FP.dadd (mLower y) FP.dconst1) y) (mSigned0 (mLower y) y)
def dM1 : UInt64 := 13830554455654793216
def mGreat (x y : UInt64) : UInt64 := if FP.dcmp x y = some .gt then x else if FP.dcmp x y = some .eq then (if sMin x = 0 then x else y) else y
def mSgn (y : UInt64) : UInt64 := if FP.dcmp y FP.dconst0 = some .gt then FP.dconst1 else if FP.dcmp y FP.dconst0 = some .lt then dM1 else y
noncomputable def mChosen (how : Int32) (x y : UInt64) : UInt64 := if how = 5 then (if sLess x y = 0 then y else x) else if how = 6 then mGreat x y else if how = 7 then mSigned x (sMin y) else if how = 8 then mSigned y 0 else if how = 9 then mLower y else if how = 10 then mUpper y else if how = 11 then mNear y else mSgn y
set_option maxHeartbeats 4000000 in
set_option maxRecDepth 20000 in
theorem m_chosen {g : GE} {d : Nat} {w : GW} {Q : Option Value → GW → Prop} (hd : 5 ≤ d) {how : Int32} {x y : UInt64} (hx : DF x) (hy : DF y) (k : Q (some (.double (mChosen how x y))) w) : gM g d mX10_chosen [.int how, .double x, .double y] w Q := by
  refine gM.of (by decide) (Nat.le_of_ble_eq_true rfl) ?_
  refine g_iload_n dX10_chosen_0 rfl ?_
  refine g_tsw dX10_chosen_1 [44, 69, 94, 103, 109, 114, 119] 124 (by decide) (by decide) (by decide) (by decide) (by decide) ?_ (fun c1 => ?_)
  · simp only [tswK]
    refine ⟨fun c1 => ?_, fun c1 => ?_, fun c1 => ?_, fun c1 => ?_, fun c1 => ?_, fun c1 => ?_, fun c1 => ?_, trivial⟩
    · replace c1 := c1.trans (by decide : _ = (5 : Int32))
      refine g_dload_n dX10_chosen_44 rfl ?_
      refine g_dload_n dX10_chosen_45 rfl ?_
      refine g_dcmp dX10_chosen_46 ?_
      refine g_if_lt 63 dX10_chosen_47 (by decide) (fun c2 => ?_) (fun c2 => ?_)
      · refine g_dload_n dX10_chosen_63 rfl ?_
        refine g_goto 68 dX10_chosen_64 (by decide) ?_
        refine g_dret dX10_chosen_68 rfl ?_
        simp only [cv_gtl, cv_gtg, cv_lel, cv_gel, cv_geg, cv_ltl, cv_ltg, cv_leg, cv_eql, cv_eqg, Classical.not_not] at c2
        simpa [mChosen, sLess, c1, c2] using k
      · refine g_dload_n dX10_chosen_50 rfl ?_
        refine g_dload_n dX10_chosen_51 rfl ?_
        refine g_dcmp dX10_chosen_52 ?_
        refine g_if_ne 67 dX10_chosen_53 (by decide) (fun c3 => ?_) (fun c3 => ?_)
        · refine g_dload_n dX10_chosen_67 rfl ?_
          refine g_dret dX10_chosen_68 rfl ?_
          simp only [cv_gtl, cv_gtg, cv_lel, cv_gel, cv_geg, cv_ltl, cv_ltg, cv_leg, cv_eql, cv_eqg, Classical.not_not] at c2 c3
          simpa [mChosen, sLess, c1, c2, c3] using k
        · refine g_dload_n dX10_chosen_56 rfl ?_
          refine g_callS (d1 := d - 1) (As := [_]) dX10_chosen_57 sX10_272 (by omega) rfl rfl (Nat.le_of_ble_eq_true rfl) ?_
          refine m_isMinusNumber hx ?_
          refine g_if_eq 67 dX10_chosen_60 (by decide) (fun c4 => ?_) (fun c4 => ?_)
          · refine g_dload_n dX10_chosen_67 rfl ?_
            refine g_dret dX10_chosen_68 rfl ?_
            simp only [cv_gtl, cv_gtg, cv_lel, cv_gel, cv_geg, cv_ltl, cv_ltg, cv_leg, cv_eql, cv_eqg, Classical.not_not] at c2 c3
            have cm : sLess x y = sMin x := by simp [sLess, c2, c3]
            simpa [mChosen, sLess, c1, c2, c3, c4] using k
          · refine g_dload_n dX10_chosen_63 rfl ?_
            refine g_goto 68 dX10_chosen_64 (by decide) ?_
            refine g_dret dX10_chosen_68 rfl ?_
            simp only [cv_gtl, cv_gtg, cv_lel, cv_gel, cv_geg, cv_ltl, cv_ltg, cv_leg, cv_eql, cv_eqg, Classical.not_not] at c2 c3
            have cm : sLess x y = sMin x := by simp [sLess, c2, c3]
            simpa [mChosen, sLess, c1, c2, c3, c4] using k
    · replace c1 := c1.trans (by decide : _ = (6 : Int32))
      refine g_dload_n dX10_chosen_69 rfl ?_
      refine g_dload_n dX10_chosen_70 rfl ?_
      refine g_dcmp dX10_chosen_71 ?_
      refine g_if_gt 88 dX10_chosen_72 (by decide) (fun c5 => ?_) (fun c5 => ?_)
      · refine g_dload_n dX10_chosen_88 rfl ?_
        refine g_goto 93 dX10_chosen_89 (by decide) ?_
        refine g_dret dX10_chosen_93 rfl ?_
        simp only [cv_gtl, cv_gtg, cv_lel, cv_gel, cv_geg, cv_ltl, cv_ltg, cv_leg, cv_eql, cv_eqg, Classical.not_not] at c5
        simpa [mChosen, mGreat, c1, c5] using k
      · refine g_dload_n dX10_chosen_75 rfl ?_
        refine g_dload_n dX10_chosen_76 rfl ?_
        refine g_dcmp dX10_chosen_77 ?_
        refine g_if_ne 92 dX10_chosen_78 (by decide) (fun c6 => ?_) (fun c6 => ?_)
        · refine g_dload_n dX10_chosen_92 rfl ?_
          refine g_dret dX10_chosen_93 rfl ?_
          simp only [cv_gtl, cv_gtg, cv_lel, cv_gel, cv_geg, cv_ltl, cv_ltg, cv_leg, cv_eql, cv_eqg, Classical.not_not] at c5 c6
          simpa [mChosen, mGreat, c1, c5, c6] using k
        · refine g_dload_n dX10_chosen_81 rfl ?_
          refine g_callS (d1 := d - 1) (As := [_]) dX10_chosen_82 sX10_272 (by omega) rfl rfl (Nat.le_of_ble_eq_true rfl) ?_
          refine m_isMinusNumber hx ?_
          refine g_if_ne 92 dX10_chosen_85 (by decide) (fun c7 => ?_) (fun c7 => ?_)
          · refine g_dload_n dX10_chosen_92 rfl ?_
            refine g_dret dX10_chosen_93 rfl ?_
            simp only [cv_gtl, cv_gtg, cv_lel, cv_gel, cv_geg, cv_ltl, cv_ltg, cv_leg, cv_eql, cv_eqg, Classical.not_not] at c5 c6
            simpa [mChosen, mGreat, c1, c5, c6, c7] using k
          · refine g_dload_n dX10_chosen_88 rfl ?_
            refine g_goto 93 dX10_chosen_89 (by decide) ?_
            refine g_dret dX10_chosen_93 rfl ?_
            simp only [cv_gtl, cv_gtg, cv_lel, cv_gel, cv_geg, cv_ltl, cv_ltg, cv_leg, cv_eql, cv_eqg, Classical.not_not] at c5 c6
            simpa [mChosen, mGreat, c1, c5, c6, c7] using k
    · replace c1 := c1.trans (by decide : _ = (7 : Int32))
      refine g_dload_n dX10_chosen_94 rfl ?_
      refine g_dload_n dX10_chosen_95 rfl ?_
      refine g_callS (d1 := d - 1) (As := [_]) dX10_chosen_96 sX10_272 (by omega) rfl rfl (Nat.le_of_ble_eq_true rfl) ?_
      refine m_isMinusNumber hy ?_
      refine g_callS (d1 := d - 1) (As := [_, _]) dX10_chosen_99 sX10_280 (by omega) rfl rfl (Nat.le_of_ble_eq_true rfl) ?_
      refine m_signed (by omega) hx ?_
      refine g_dret dX10_chosen_102 rfl ?_
      simpa [mChosen, c1] using k
    · replace c1 := c1.trans (by decide : _ = (8 : Int32))
      refine g_dload_n dX10_chosen_103 rfl ?_
      refine g_iconstV (v := 0) dX10_chosen_104 (by decide) ?_
      refine g_callS (d1 := d - 1) (As := [_, _]) dX10_chosen_105 sX10_280 (by omega) rfl rfl (Nat.le_of_ble_eq_true rfl) ?_
      refine m_signed (by omega) hy ?_
      refine g_dret dX10_chosen_108 rfl ?_
      simpa [mChosen, c1] using k
    · replace c1 := c1.trans (by decide : _ = (9 : Int32))
      refine g_dload_n dX10_chosen_109 rfl ?_
      refine g_callS (d1 := d - 1) (As := [_]) dX10_chosen_110 sX10_284 (by omega) rfl rfl (Nat.le_of_ble_eq_true rfl) ?_
      refine m_lower (by omega) hy ?_
      refine g_dret dX10_chosen_113 rfl ?_
      simpa [mChosen, c1] using k
    · replace c1 := c1.trans (by decide : _ = (10 : Int32))
      refine g_dload_n dX10_chosen_114 rfl ?_
      refine g_callS (d1 := d - 1) (As := [_]) dX10_chosen_115 sX10_292 (by omega) rfl rfl (Nat.le_of_ble_eq_true rfl) ?_
      refine m_upper (by omega) hy ?_
      refine g_dret dX10_chosen_118 rfl ?_
      simpa [mChosen, c1] using k
    · replace c1 := c1.trans (by decide : _ = (11 : Int32))
      refine g_dload_n dX10_chosen_119 rfl ?_
      refine g_callS (d1 := d - 1) (As := [_]) dX10_chosen_120 sX10_295 (by omega) rfl rfl (Nat.le_of_ble_eq_true rfl) ?_
      refine m_nearest (by omega) hy (DF_near y) (fun hu => ?_) (fun hu => ?_)
      · refine g_dret dX10_chosen_123 rfl ?_
        have e : mNear y = mSigned0 (FP.dadd (mLower y) FP.dconst1) y := if_pos hu
        rw [← e]
        simpa [mChosen, c1] using k
      · refine g_dret dX10_chosen_123 rfl ?_
        have e : mNear y = mSigned0 (mLower y) y := if_neg hu
        rw [← e]
        simpa [mChosen, c1] using k
  · have c1n0 := tsw_ne c1 5 (by decide)
    have c1n1 := tsw_ne c1 6 (by decide)
    have c1n2 := tsw_ne c1 7 (by decide)
    have c1n3 := tsw_ne c1 8 (by decide)
    have c1n4 := tsw_ne c1 9 (by decide)
    have c1n5 := tsw_ne c1 10 (by decide)
    have c1n6 := tsw_ne c1 11 (by decide)
    refine g_dload_n dX10_chosen_124 rfl ?_
    refine g_dconst0 dX10_chosen_125 ?_
    refine g_dcmp dX10_chosen_126 ?_
    refine g_if_le 134 dX10_chosen_127 (by decide) (fun c8 => ?_) (fun c8 => ?_)
    · refine g_dload_n dX10_chosen_134 rfl ?_
      refine g_dconst0 dX10_chosen_135 ?_
      refine g_dcmp dX10_chosen_136 ?_
      refine g_if_ge 146 dX10_chosen_137 (by decide) (fun c9 => ?_) (fun c9 => ?_)
      · refine g_dload_n dX10_chosen_146 rfl ?_
        refine g_dret dX10_chosen_147 rfl ?_
        simp only [cv_gtl, cv_gtg, cv_lel, cv_gel, cv_geg, cv_ltl, cv_ltg, cv_leg, cv_eql, cv_eqg, Classical.not_not] at c8 c9
        simpa [mChosen, mSgn, dM1, c1n0, c1n1, c1n2, c1n3, c1n4, c1n5, c1n6, c8, c9] using k
      · refine g_ldc2d dX10_chosen_140 qX10_298 ?_
        refine g_goto 147 dX10_chosen_143 (by decide) ?_
        refine g_dret dX10_chosen_147 rfl ?_
        simp only [cv_gtl, cv_gtg, cv_lel, cv_gel, cv_geg, cv_ltl, cv_ltg, cv_leg, cv_eql, cv_eqg, Classical.not_not] at c8 c9
        simpa [mChosen, mSgn, dM1, c1n0, c1n1, c1n2, c1n3, c1n4, c1n5, c1n6, c8, c9] using k
    · refine g_dconst1 dX10_chosen_130 ?_
      refine g_goto 147 dX10_chosen_131 (by decide) ?_
      refine g_dret dX10_chosen_147 rfl ?_
      simp only [cv_gtl, cv_gtg, cv_lel, cv_gel, cv_geg, cv_ltl, cv_ltg, cv_leg, cv_eql, cv_eqg, Classical.not_not] at c8
      simpa [mChosen, mSgn, dM1, c1n0, c1n1, c1n2, c1n3, c1n4, c1n5, c1n6, c8] using k
set_option maxHeartbeats 4000000 in
set_option maxRecDepth 20000 in
theorem m_turn {g : GE} {d : Nat} {w : GW} {σ : MW} {Q : Option Value → GW → Prop} (hd : 2 ≤ d) (hS : SK g w) {b n : Nat} {x : UInt64} (hb : b < 8) (hn : mI σ 22 = nI n) (hn2 : n < 600) (k1 : fBeyond x → Q none (put g (mFail σ n 8) w)) (k2 : ¬ fBeyond x → Q none (put g (sD σ 11 b x) w)) : gM g d mX10_turn [.ref (eB g + 70), .int (nI b), .double x] (put g σ w) Q := by
  refine gM.of (by decide) (Nat.le_of_ble_eq_true rfl) ?_
  refine g_dload_n dX10_turn_0 rfl ?_
  refine g_ldc2d dX10_turn_1 qX10_300 ?_
  refine g_dcmp dX10_turn_4 ?_
  refine g_if_gt 16 dX10_turn_5 (by decide) (fun c1 => ?_) (fun c1 => ?_)
  · refine g_aload_n dX10_turn_16 rfl ?_
    refine g_bipushV (v := 8) dX10_turn_17 (by decide) ?_
    refine g_callV (d1 := d - 1) (As := [_]) 9 dX10_turn_19 vX10_191 (by omega) (mg_ob hS) rfl rfl (Nat.le_of_ble_eq_true rfl) ?_
    refine m_fail (by omega) hS hn hn2 ?_
    refine g_goto 32 dX10_turn_22 (by decide) ?_
    refine g_vret dX10_turn_32 rfl ?_
    exact k1 (Or.inl ((cv_gtl _).mp c1))
  · refine g_dload_n dX10_turn_8 rfl ?_
    refine g_ldc2d dX10_turn_9 qX10_302 ?_
    refine g_dcmp dX10_turn_12 ?_
    refine g_if_ge 25 dX10_turn_13 (by decide) (fun c2 => ?_) (fun c2 => ?_)
    · refine g_aload_n dX10_turn_25 rfl ?_
      refine mg_getA 12 11 dX10_turn_26 fX10_43 rfl rt_11 hS ?_
      refine g_iload_n dX10_turn_29 rfl ?_
      refine g_dload_n dX10_turn_30 rfl ?_
      refine mg_dast dX10_turn_31 (by first | exact rfl | assumption) rfl rfl (by omega) hS ?_
      refine g_vret dX10_turn_32 rfl ?_
      exact k2 (fun q => q.elim (fun q => c1 ((cv_gtl _).mpr q)) (fun q => (cv_geg _).mp c2 q))
    · refine g_aload_n dX10_turn_16 rfl ?_
      refine g_bipushV (v := 8) dX10_turn_17 (by decide) ?_
      refine g_callV (d1 := d - 1) (As := [_]) 9 dX10_turn_19 vX10_191 (by omega) (mg_ob hS) rfl rfl (Nat.le_of_ble_eq_true rfl) ?_
      refine m_fail (by omega) hS hn hn2 ?_
      refine g_goto 32 dX10_turn_22 (by decide) ?_
      refine g_vret dX10_turn_32 rfl ?_
      exact k1 (Or.inr (Classical.byContradiction fun q => c2 ((cv_geg _).mpr q)))
