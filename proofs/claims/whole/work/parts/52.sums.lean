theorem lg1 (x : Int64) : lg_cmp x 1 = 0 ↔ x = 1 := by
  unfold lg_cmp
  by_cases h : x = 1
  · subst h; decide
  · simp only [h, if_false, iff_false]
    split <;> decide
set_option maxHeartbeats 4000000 in
set_option maxRecDepth 20000 in
theorem c_nearestWhole {g : GE} {d : Nat} {w : GW} {Q : Option Value → GW → Prop} {y : UInt64} (hy : DF y) (k : Q (some (.double (sNear y))) w) : gM g d mX8_nearestWhole [.double y] w Q := by
  refine gM.of (by decide) (Nat.le_of_ble_eq_true rfl) ?_
  refine g_dload_n dX8_nearestWhole_0 rfl ?_
  refine g_dconst0 dX8_nearestWhole_1 ?_
  refine g_dcmp dX8_nearestWhole_2 ?_
  refine g_if_ne 8 dX8_nearestWhole_3 (by decide) (fun c1 => ?_) (fun c1 => ?_)
  · refine g_dload_n dX8_nearestWhole_8 rfl ?_
    refine g_dconst0 dX8_nearestWhole_9 ?_
    refine g_dcmp dX8_nearestWhole_10 ?_
    refine g_if_ge 19 dX8_nearestWhole_11 (by decide) (fun c2 => ?_) (fun c2 => ?_)
    · refine g_dload_n dX8_nearestWhole_19 rfl ?_
      refine g_dstore_n dX8_nearestWhole_20 (by decide) rfl ?_
      refine g_dload_n dX8_nearestWhole_21 rfl ?_
      refine g_d2l dX8_nearestWhole_22 ?_
      refine g_lstore dX8_nearestWhole_23 (by decide) rfl ?_
      refine g_dload_n dX8_nearestWhole_25 rfl ?_
      refine g_lload dX8_nearestWhole_26 rfl ?_
      refine g_l2d dX8_nearestWhole_28 ?_
      refine g_dsub dX8_nearestWhole_29 (nn_sub hy (DF_l2d _)) ?_
      refine g_dstore dX8_nearestWhole_30 (by decide) rfl ?_
      refine g_dload dX8_nearestWhole_32 rfl ?_
      refine g_ldc2d dX8_nearestWhole_34 qX8_34 ?_
      refine g_dcmp dX8_nearestWhole_37 ?_
      refine g_if_gt 61 dX8_nearestWhole_38 (by decide) (fun c3 => ?_) (fun c3 => ?_)
      · refine g_lload dX8_nearestWhole_61 rfl ?_
        refine g_lconstV (v := 1) dX8_nearestWhole_63 (by decide) ?_
        refine g_ladd dX8_nearestWhole_64 ?_
        refine g_lstore dX8_nearestWhole_65 (by decide) rfl ?_
        refine g_lload dX8_nearestWhole_67 rfl ?_
        refine g_l2d dX8_nearestWhole_69 ?_
        refine g_dstore dX8_nearestWhole_70 (by decide) rfl ?_
        refine g_dload_n dX8_nearestWhole_72 rfl ?_
        refine g_dconst0 dX8_nearestWhole_73 ?_
        refine g_dcmp dX8_nearestWhole_74 ?_
        refine g_if_ge 84 dX8_nearestWhole_75 (by decide) (fun c4 => ?_) (fun c4 => ?_)
        · refine g_dload dX8_nearestWhole_84 rfl ?_
          refine g_dret dX8_nearestWhole_86 rfl ?_
          have q2 := c2
          rw [cv_geg] at q2
          replace c1 : ¬ FP.dcmp y FP.dconst0 = some .eq := fun z => c1 ((cv_eql _).mpr z)
          have hu : sUp y := Or.inl ((cv_gtl _).mp c3)
          have en : sN y = FP.l2d (FP.d2l y + 1) := by unfold sN; rw [if_pos hu]
          unfold sNear at k
          rw [if_neg c1, if_neg q2, en] at k
          exact k
        · refine g_dload dX8_nearestWhole_78 rfl ?_
          refine g_dneg dX8_nearestWhole_80 ?_
          refine g_goto 86 dX8_nearestWhole_81 (by decide) ?_
          refine g_dret dX8_nearestWhole_86 rfl ?_
          exact absurd c2 c4
      · refine g_dload dX8_nearestWhole_41 rfl ?_
        refine g_ldc2d dX8_nearestWhole_43 qX8_34 ?_
        refine g_dcmp dX8_nearestWhole_46 ?_
        refine g_if_ne 67 dX8_nearestWhole_47 (by decide) (fun c5 => ?_) (fun c5 => ?_)
        · refine g_lload dX8_nearestWhole_67 rfl ?_
          refine g_l2d dX8_nearestWhole_69 ?_
          refine g_dstore dX8_nearestWhole_70 (by decide) rfl ?_
          refine g_dload_n dX8_nearestWhole_72 rfl ?_
          refine g_dconst0 dX8_nearestWhole_73 ?_
          refine g_dcmp dX8_nearestWhole_74 ?_
          refine g_if_ge 84 dX8_nearestWhole_75 (by decide) (fun c6 => ?_) (fun c6 => ?_)
          · refine g_dload dX8_nearestWhole_84 rfl ?_
            refine g_dret dX8_nearestWhole_86 rfl ?_
            have q2 := c2
            rw [cv_geg] at q2
            replace c1 : ¬ FP.dcmp y FP.dconst0 = some .eq := fun z => c1 ((cv_eql _).mpr z)
            have hu : ¬ sUp y := fun z => z.elim (fun z => c3 ((cv_gtl _).mpr z)) (fun z => c5 ((cv_eql _).mpr z.1))
            have en : sN y = FP.l2d (FP.d2l y) := by unfold sN; rw [if_neg hu]
            unfold sNear at k
            rw [if_neg c1, if_neg q2, en] at k
            exact k
          · refine g_dload dX8_nearestWhole_78 rfl ?_
            refine g_dneg dX8_nearestWhole_80 ?_
            refine g_goto 86 dX8_nearestWhole_81 (by decide) ?_
            refine g_dret dX8_nearestWhole_86 rfl ?_
            exact absurd c2 c6
        · refine g_lload dX8_nearestWhole_50 rfl ?_
          refine g_ldc2l dX8_nearestWhole_52 qX8_36 ?_
          refine g_lrem dX8_nearestWhole_55 (by decide) ?_
          refine g_lconstV (v := 1) dX8_nearestWhole_56 (by decide) ?_
          refine g_lcmp dX8_nearestWhole_57 ?_
          refine g_if_ne 67 dX8_nearestWhole_58 (by decide) (fun c7 => ?_) (fun c7 => ?_)
          · refine g_lload dX8_nearestWhole_67 rfl ?_
            refine g_l2d dX8_nearestWhole_69 ?_
            refine g_dstore dX8_nearestWhole_70 (by decide) rfl ?_
            refine g_dload_n dX8_nearestWhole_72 rfl ?_
            refine g_dconst0 dX8_nearestWhole_73 ?_
            refine g_dcmp dX8_nearestWhole_74 ?_
            refine g_if_ge 84 dX8_nearestWhole_75 (by decide) (fun c8 => ?_) (fun c8 => ?_)
            · refine g_dload dX8_nearestWhole_84 rfl ?_
              refine g_dret dX8_nearestWhole_86 rfl ?_
              have q2 := c2
              rw [cv_geg] at q2
              replace c1 : ¬ FP.dcmp y FP.dconst0 = some .eq := fun z => c1 ((cv_eql _).mpr z)
              have hu : ¬ sUp y := fun z => z.elim (fun z => c3 ((cv_gtl _).mpr z)) (fun z => c7 ((lg1 _).mpr z.2))
              have en : sN y = FP.l2d (FP.d2l y) := by unfold sN; rw [if_neg hu]
              unfold sNear at k
              rw [if_neg c1, if_neg q2, en] at k
              exact k
            · refine g_dload dX8_nearestWhole_78 rfl ?_
              refine g_dneg dX8_nearestWhole_80 ?_
              refine g_goto 86 dX8_nearestWhole_81 (by decide) ?_
              refine g_dret dX8_nearestWhole_86 rfl ?_
              exact absurd c2 c8
          · refine g_lload dX8_nearestWhole_61 rfl ?_
            refine g_lconstV (v := 1) dX8_nearestWhole_63 (by decide) ?_
            refine g_ladd dX8_nearestWhole_64 ?_
            refine g_lstore dX8_nearestWhole_65 (by decide) rfl ?_
            refine g_lload dX8_nearestWhole_67 rfl ?_
            refine g_l2d dX8_nearestWhole_69 ?_
            refine g_dstore dX8_nearestWhole_70 (by decide) rfl ?_
            refine g_dload_n dX8_nearestWhole_72 rfl ?_
            refine g_dconst0 dX8_nearestWhole_73 ?_
            refine g_dcmp dX8_nearestWhole_74 ?_
            refine g_if_ge 84 dX8_nearestWhole_75 (by decide) (fun c9 => ?_) (fun c9 => ?_)
            · refine g_dload dX8_nearestWhole_84 rfl ?_
              refine g_dret dX8_nearestWhole_86 rfl ?_
              have q2 := c2
              rw [cv_geg] at q2
              replace c1 : ¬ FP.dcmp y FP.dconst0 = some .eq := fun z => c1 ((cv_eql _).mpr z)
              have hu : sUp y := Or.inr ⟨(cv_eql _).mp c5, (lg1 _).mp c7⟩
              have en : sN y = FP.l2d (FP.d2l y + 1) := by unfold sN; rw [if_pos hu]
              unfold sNear at k
              rw [if_neg c1, if_neg q2, en] at k
              exact k
            · refine g_dload dX8_nearestWhole_78 rfl ?_
              refine g_dneg dX8_nearestWhole_80 ?_
              refine g_goto 86 dX8_nearestWhole_81 (by decide) ?_
              refine g_dret dX8_nearestWhole_86 rfl ?_
              exact absurd c2 c9
    · refine g_dload_n dX8_nearestWhole_14 rfl ?_
      refine g_dneg dX8_nearestWhole_15 ?_
      refine g_goto 20 dX8_nearestWhole_16 (by decide) ?_
      refine g_dstore_n dX8_nearestWhole_20 (by decide) rfl ?_
      refine g_dload_n dX8_nearestWhole_21 rfl ?_
      refine g_d2l dX8_nearestWhole_22 ?_
      refine g_lstore dX8_nearestWhole_23 (by decide) rfl ?_
      refine g_dload_n dX8_nearestWhole_25 rfl ?_
      refine g_lload dX8_nearestWhole_26 rfl ?_
      refine g_l2d dX8_nearestWhole_28 ?_
      refine g_dsub dX8_nearestWhole_29 (nn_sub (DF_neg hy) (DF_l2d _)) ?_
      refine g_dstore dX8_nearestWhole_30 (by decide) rfl ?_
      refine g_dload dX8_nearestWhole_32 rfl ?_
      refine g_ldc2d dX8_nearestWhole_34 qX8_34 ?_
      refine g_dcmp dX8_nearestWhole_37 ?_
      refine g_if_gt 61 dX8_nearestWhole_38 (by decide) (fun c10 => ?_) (fun c10 => ?_)
      · refine g_lload dX8_nearestWhole_61 rfl ?_
        refine g_lconstV (v := 1) dX8_nearestWhole_63 (by decide) ?_
        refine g_ladd dX8_nearestWhole_64 ?_
        refine g_lstore dX8_nearestWhole_65 (by decide) rfl ?_
        refine g_lload dX8_nearestWhole_67 rfl ?_
        refine g_l2d dX8_nearestWhole_69 ?_
        refine g_dstore dX8_nearestWhole_70 (by decide) rfl ?_
        refine g_dload_n dX8_nearestWhole_72 rfl ?_
        refine g_dconst0 dX8_nearestWhole_73 ?_
        refine g_dcmp dX8_nearestWhole_74 ?_
        refine g_if_ge 84 dX8_nearestWhole_75 (by decide) (fun c11 => ?_) (fun c11 => ?_)
        · refine g_dload dX8_nearestWhole_84 rfl ?_
          refine g_dret dX8_nearestWhole_86 rfl ?_
          exact absurd c11 c2
        · refine g_dload dX8_nearestWhole_78 rfl ?_
          refine g_dneg dX8_nearestWhole_80 ?_
          refine g_goto 86 dX8_nearestWhole_81 (by decide) ?_
          refine g_dret dX8_nearestWhole_86 rfl ?_
          have q2 := c2
          rw [cv_geg] at q2
          rw [Classical.not_not] at q2
          replace c1 : ¬ FP.dcmp y FP.dconst0 = some .eq := fun z => c1 ((cv_eql _).mpr z)
          have hu : sUp (FP.dneg y) := Or.inl ((cv_gtl _).mp c10)
          have en : sN (FP.dneg y) = FP.l2d (FP.d2l (FP.dneg y) + 1) := by unfold sN; rw [if_pos hu]
          unfold sNear at k
          rw [if_neg c1, if_pos q2, en] at k
          exact k
      · refine g_dload dX8_nearestWhole_41 rfl ?_
        refine g_ldc2d dX8_nearestWhole_43 qX8_34 ?_
        refine g_dcmp dX8_nearestWhole_46 ?_
        refine g_if_ne 67 dX8_nearestWhole_47 (by decide) (fun c12 => ?_) (fun c12 => ?_)
        · refine g_lload dX8_nearestWhole_67 rfl ?_
          refine g_l2d dX8_nearestWhole_69 ?_
          refine g_dstore dX8_nearestWhole_70 (by decide) rfl ?_
          refine g_dload_n dX8_nearestWhole_72 rfl ?_
          refine g_dconst0 dX8_nearestWhole_73 ?_
          refine g_dcmp dX8_nearestWhole_74 ?_
          refine g_if_ge 84 dX8_nearestWhole_75 (by decide) (fun c13 => ?_) (fun c13 => ?_)
          · refine g_dload dX8_nearestWhole_84 rfl ?_
            refine g_dret dX8_nearestWhole_86 rfl ?_
            exact absurd c13 c2
          · refine g_dload dX8_nearestWhole_78 rfl ?_
            refine g_dneg dX8_nearestWhole_80 ?_
            refine g_goto 86 dX8_nearestWhole_81 (by decide) ?_
            refine g_dret dX8_nearestWhole_86 rfl ?_
            have q2 := c2
            rw [cv_geg] at q2
            rw [Classical.not_not] at q2
            replace c1 : ¬ FP.dcmp y FP.dconst0 = some .eq := fun z => c1 ((cv_eql _).mpr z)
            have hu : ¬ sUp (FP.dneg y) := fun z => z.elim (fun z => c10 ((cv_gtl _).mpr z)) (fun z => c12 ((cv_eql _).mpr z.1))
            have en : sN (FP.dneg y) = FP.l2d (FP.d2l (FP.dneg y)) := by unfold sN; rw [if_neg hu]
            unfold sNear at k
            rw [if_neg c1, if_pos q2, en] at k
            exact k
        · refine g_lload dX8_nearestWhole_50 rfl ?_
          refine g_ldc2l dX8_nearestWhole_52 qX8_36 ?_
          refine g_lrem dX8_nearestWhole_55 (by decide) ?_
          refine g_lconstV (v := 1) dX8_nearestWhole_56 (by decide) ?_
          refine g_lcmp dX8_nearestWhole_57 ?_
          refine g_if_ne 67 dX8_nearestWhole_58 (by decide) (fun c14 => ?_) (fun c14 => ?_)
          · refine g_lload dX8_nearestWhole_67 rfl ?_
            refine g_l2d dX8_nearestWhole_69 ?_
            refine g_dstore dX8_nearestWhole_70 (by decide) rfl ?_
            refine g_dload_n dX8_nearestWhole_72 rfl ?_
            refine g_dconst0 dX8_nearestWhole_73 ?_
            refine g_dcmp dX8_nearestWhole_74 ?_
            refine g_if_ge 84 dX8_nearestWhole_75 (by decide) (fun c15 => ?_) (fun c15 => ?_)
            · refine g_dload dX8_nearestWhole_84 rfl ?_
              refine g_dret dX8_nearestWhole_86 rfl ?_
              exact absurd c15 c2
            · refine g_dload dX8_nearestWhole_78 rfl ?_
              refine g_dneg dX8_nearestWhole_80 ?_
              refine g_goto 86 dX8_nearestWhole_81 (by decide) ?_
              refine g_dret dX8_nearestWhole_86 rfl ?_
              have q2 := c2
              rw [cv_geg] at q2
              rw [Classical.not_not] at q2
              replace c1 : ¬ FP.dcmp y FP.dconst0 = some .eq := fun z => c1 ((cv_eql _).mpr z)
              have hu : ¬ sUp (FP.dneg y) := fun z => z.elim (fun z => c10 ((cv_gtl _).mpr z)) (fun z => c14 ((lg1 _).mpr z.2))
              have en : sN (FP.dneg y) = FP.l2d (FP.d2l (FP.dneg y)) := by unfold sN; rw [if_neg hu]
              unfold sNear at k
              rw [if_neg c1, if_pos q2, en] at k
              exact k
          · refine g_lload dX8_nearestWhole_61 rfl ?_
            refine g_lconstV (v := 1) dX8_nearestWhole_63 (by decide) ?_
            refine g_ladd dX8_nearestWhole_64 ?_
            refine g_lstore dX8_nearestWhole_65 (by decide) rfl ?_
            refine g_lload dX8_nearestWhole_67 rfl ?_
            refine g_l2d dX8_nearestWhole_69 ?_
            refine g_dstore dX8_nearestWhole_70 (by decide) rfl ?_
            refine g_dload_n dX8_nearestWhole_72 rfl ?_
            refine g_dconst0 dX8_nearestWhole_73 ?_
            refine g_dcmp dX8_nearestWhole_74 ?_
            refine g_if_ge 84 dX8_nearestWhole_75 (by decide) (fun c16 => ?_) (fun c16 => ?_)
            · refine g_dload dX8_nearestWhole_84 rfl ?_
              refine g_dret dX8_nearestWhole_86 rfl ?_
              exact absurd c16 c2
            · refine g_dload dX8_nearestWhole_78 rfl ?_
              refine g_dneg dX8_nearestWhole_80 ?_
              refine g_goto 86 dX8_nearestWhole_81 (by decide) ?_
              refine g_dret dX8_nearestWhole_86 rfl ?_
              have q2 := c2
              rw [cv_geg] at q2
              rw [Classical.not_not] at q2
              replace c1 : ¬ FP.dcmp y FP.dconst0 = some .eq := fun z => c1 ((cv_eql _).mpr z)
              have hu : sUp (FP.dneg y) := Or.inr ⟨(cv_eql _).mp c12, (lg1 _).mp c14⟩
              have en : sN (FP.dneg y) = FP.l2d (FP.d2l (FP.dneg y) + 1) := by unfold sN; rw [if_pos hu]
              unfold sNear at k
              rw [if_neg c1, if_pos q2, en] at k
              exact k
  · refine g_dload_n dX8_nearestWhole_6 rfl ?_
    refine g_dret dX8_nearestWhole_7 rfl ?_
    unfold sNear at k
    rw [if_pos ((cv_eql _).mp c1)] at k
    exact k
/-! isLess tells 0 and -0 apart by 1 / x alone: of two that are like and not 0, each is the other -/
theorem less2_eq {x y : UInt64} (hx : DF x) (hy : DF y) : sLess2 x y = sLess x y ∨ x = y := by
  unfold sLess2 sLess
  by_cases h1 : FP.dcmp x y = some .lt
  · rw [if_pos h1, if_pos h1]
    exact Or.inl rfl
  · rw [if_neg h1, if_neg h1]
    by_cases h2 : FP.dcmp x y = some .eq
    · rw [if_pos h2, if_pos h2]
      by_cases h3 : zv x = 0
      · refine Or.inl ?_
        have e0 : FP.dcmp x FP.dconst0 = some .eq := (zc_eq hx DF_zero).mpr (by rw [h3, z_0.2.2])
        have e1 : ¬ FP.dcmp x FP.dconst0 = some .lt := fun q => by rw [e0] at q; cases q
        unfold sMin
        rw [if_neg e1, if_pos e0]
      · exact Or.inr (z_extv hx hy ((zc_eq hx hy).mp h2) h3)
    · rw [if_neg h2, if_neg h2]
      exact Or.inl rfl
theorem less2_5 {x y : UInt64} (hx : DF x) (hy : DF y) : (if sLess2 x y = 0 then y else x) = (if sLess x y = 0 then y else x) := by
  rcases less2_eq hx hy with h | h
  · rw [h]
  · rw [← h, ite_self, ite_self]
theorem less2_6 {x y : UInt64} (hx : DF x) (hy : DF y) : (if sLess2 x y = 0 then x else y) = (if sLess x y = 0 then x else y) := by
  rcases less2_eq hx hy with h | h
  · rw [h]
  · rw [← h, ite_self, ite_self]
set_option maxHeartbeats 4000000 in
set_option maxRecDepth 20000 in
theorem c_fine0 {g : GE} {d : Nat} {w : GW} {Q : Option Value → GW → Prop} (hd : 2 ≤ d) {x y : UInt64} (hx : dOK x) (hy : dOK y) (k : Q (some (.double (fFine 0 x y))) w) : gM g d mX8_fine [.int 0, .double x, .double y] w Q := by
  refine gM.of (by decide) (Nat.le_of_ble_eq_true rfl) ?_
  obtain ⟨hx1, hx2⟩ := dOK_iff.mp hx
  obtain ⟨hy1, hy2⟩ := dOK_iff.mp hy
  have ev : fFine 0 x y = FP.dadd x y := by simp [fFine, mChosen]
  rw [ev] at k
  refine g_iload_n dX8_fine_0 rfl ?_
  refine g_tableIn (off := 67) 68 dX8_fine_1 (by rw [show (0 : Int32) = 0 from rfl]; decide) (by rw [show (0 : Int32) = 0 from rfl]; decide) (by rw [show (0 : Int32) = 0 from rfl]; rfl) (by decide) ?_
  refine g_dload_n dX8_fine_68 rfl ?_
  refine g_dload_n dX8_fine_69 rfl ?_
  refine g_dadd dX8_fine_70 (nn_add hx1 hy1) ?_
  refine g_dret dX8_fine_71 rfl ?_
  exact k
set_option maxHeartbeats 4000000 in
set_option maxRecDepth 20000 in
theorem c_fine1 {g : GE} {d : Nat} {w : GW} {Q : Option Value → GW → Prop} (hd : 2 ≤ d) {x y : UInt64} (hx : dOK x) (hy : dOK y) (k : Q (some (.double (fFine 1 x y))) w) : gM g d mX8_fine [.int 1, .double x, .double y] w Q := by
  refine gM.of (by decide) (Nat.le_of_ble_eq_true rfl) ?_
  obtain ⟨hx1, hx2⟩ := dOK_iff.mp hx
  obtain ⟨hy1, hy2⟩ := dOK_iff.mp hy
  have ev : fFine 1 x y = FP.dsub x y := by simp [fFine, mChosen]
  rw [ev] at k
  refine g_iload_n dX8_fine_0 rfl ?_
  refine g_tableIn (off := 71) 72 dX8_fine_1 (by rw [show (1 : Int32) = 1 from rfl]; decide) (by rw [show (1 : Int32) = 1 from rfl]; decide) (by rw [show (1 : Int32) = 1 from rfl]; rfl) (by decide) ?_
  refine g_dload_n dX8_fine_72 rfl ?_
  refine g_dload_n dX8_fine_73 rfl ?_
  refine g_dsub dX8_fine_74 (nn_sub hx1 hy1) ?_
  refine g_dret dX8_fine_75 rfl ?_
  exact k
set_option maxHeartbeats 4000000 in
set_option maxRecDepth 20000 in
theorem c_fine2 {g : GE} {d : Nat} {w : GW} {Q : Option Value → GW → Prop} (hd : 2 ≤ d) {x y : UInt64} (hx : dOK x) (hy : dOK y) (k : Q (some (.double (fFine 2 x y))) w) : gM g d mX8_fine [.int 2, .double x, .double y] w Q := by
  refine gM.of (by decide) (Nat.le_of_ble_eq_true rfl) ?_
  obtain ⟨hx1, hx2⟩ := dOK_iff.mp hx
  obtain ⟨hy1, hy2⟩ := dOK_iff.mp hy
  have ev : fFine 2 x y = FP.dmul x y := by simp [fFine, mChosen]
  rw [ev] at k
  refine g_iload_n dX8_fine_0 rfl ?_
  refine g_tableIn (off := 75) 76 dX8_fine_1 (by rw [show (2 : Int32) = 2 from rfl]; decide) (by rw [show (2 : Int32) = 2 from rfl]; decide) (by rw [show (2 : Int32) = 2 from rfl]; rfl) (by decide) ?_
  refine g_dload_n dX8_fine_76 rfl ?_
  refine g_dload_n dX8_fine_77 rfl ?_
  refine g_dmul dX8_fine_78 (nn_mul hx1 hy1) ?_
  refine g_dret dX8_fine_79 rfl ?_
  exact k
set_option maxHeartbeats 4000000 in
set_option maxRecDepth 20000 in
theorem c_fine3 {g : GE} {d : Nat} {w : GW} {Q : Option Value → GW → Prop} (hd : 2 ≤ d) {x y : UInt64} (hx : dOK x) (hy : dOK y) (h0 : ¬ FP.dcmp y FP.dconst0 = some .eq) (k : Q (some (.double (fFine 3 x y))) w) : gM g d mX8_fine [.int 3, .double x, .double y] w Q := by
  refine gM.of (by decide) (Nat.le_of_ble_eq_true rfl) ?_
  obtain ⟨hx1, hx2⟩ := dOK_iff.mp hx
  obtain ⟨hy1, hy2⟩ := dOK_iff.mp hy
  have ev : fFine 3 x y = FP.ddiv x y := by simp [fFine, mChosen]
  rw [ev] at k
  refine g_iload_n dX8_fine_0 rfl ?_
  refine g_tableIn (off := 79) 80 dX8_fine_1 (by rw [show (3 : Int32) = 3 from rfl]; decide) (by rw [show (3 : Int32) = 3 from rfl]; decide) (by rw [show (3 : Int32) = 3 from rfl]; rfl) (by decide) ?_
  refine g_dload_n dX8_fine_80 rfl ?_
  refine g_dload_n dX8_fine_81 rfl ?_
  refine g_ddiv dX8_fine_82 (nn_div hx1 hy1 (fun q => nz_of h0 q.2)) ?_
  refine g_dret dX8_fine_83 rfl ?_
  exact k
set_option maxHeartbeats 4000000 in
set_option maxRecDepth 20000 in
theorem c_fine4 {g : GE} {d : Nat} {w : GW} {Q : Option Value → GW → Prop} (hd : 2 ≤ d) {x y : UInt64} (hx : dOK x) (hy : dOK y) (h0 : ¬ FP.dcmp y FP.dconst0 = some .eq) (k : Q (some (.double (fFine 4 x y))) w) : gM g d mX8_fine [.int 4, .double x, .double y] w Q := by
  refine gM.of (by decide) (Nat.le_of_ble_eq_true rfl) ?_
  obtain ⟨hx1, hx2⟩ := dOK_iff.mp hx
  obtain ⟨hy1, hy2⟩ := dOK_iff.mp hy
  have ev : fFine 4 x y = FP.drem x y := by simp [fFine, mChosen]
  rw [ev] at k
  refine g_iload_n dX8_fine_0 rfl ?_
  refine g_tableIn (off := 83) 84 dX8_fine_1 (by rw [show (4 : Int32) = 4 from rfl]; decide) (by rw [show (4 : Int32) = 4 from rfl]; decide) (by rw [show (4 : Int32) = 4 from rfl]; rfl) (by decide) ?_
  refine g_dload_n dX8_fine_84 rfl ?_
  refine g_dload_n dX8_fine_85 rfl ?_
  refine g_callS (d1 := d - 1) (As := [_, _]) dX8_fine_86 sX8_9 (by omega) rfl rfl (Nat.le_of_ble_eq_true rfl) ?_
  refine c_rest hx hy h0 ?_
  refine g_dret dX8_fine_89 rfl ?_
  exact k
set_option maxHeartbeats 4000000 in
set_option maxRecDepth 20000 in
theorem c_fine5 {g : GE} {d : Nat} {w : GW} {Q : Option Value → GW → Prop} (hd : 2 ≤ d) {x y : UInt64} (hx : dOK x) (hy : dOK y) (k : Q (some (.double (fFine 5 x y))) w) : gM g d mX8_fine [.int 5, .double x, .double y] w Q := by
  refine gM.of (by decide) (Nat.le_of_ble_eq_true rfl) ?_
  obtain ⟨hx1, hx2⟩ := dOK_iff.mp hx
  obtain ⟨hy1, hy2⟩ := dOK_iff.mp hy
  have ev : fFine 5 x y = (if sLess2 x y = 0 then y else x) := by rw [less2_5 hx1 hy1]; simp [fFine, mChosen]
  rw [ev] at k
  refine g_iload_n dX8_fine_0 rfl ?_
  refine g_tableIn (off := 89) 90 dX8_fine_1 (by rw [show (5 : Int32) = 5 from rfl]; decide) (by rw [show (5 : Int32) = 5 from rfl]; decide) (by rw [show (5 : Int32) = 5 from rfl]; rfl) (by decide) ?_
  refine g_dload_n dX8_fine_90 rfl ?_
  refine g_dload_n dX8_fine_91 rfl ?_
  refine g_callS (d1 := d - 1) (As := [_, _]) dX8_fine_92 sX8_13 (by omega) rfl rfl (Nat.le_of_ble_eq_true rfl) ?_
  refine c_isLess hx1 ?_
  refine g_if_eq 102 dX8_fine_95 (by decide) (fun c1 => ?_) (fun c1 => ?_)
  · refine g_dload_n dX8_fine_102 rfl ?_
    refine g_dret dX8_fine_103 rfl ?_
    rw [if_pos c1] at k
    exact k
  · refine g_dload_n dX8_fine_98 rfl ?_
    refine g_goto 103 dX8_fine_99 (by decide) ?_
    refine g_dret dX8_fine_103 rfl ?_
    rw [if_neg c1] at k
    exact k
set_option maxHeartbeats 4000000 in
set_option maxRecDepth 20000 in
theorem c_fine6 {g : GE} {d : Nat} {w : GW} {Q : Option Value → GW → Prop} (hd : 2 ≤ d) {x y : UInt64} (hx : dOK x) (hy : dOK y) (k : Q (some (.double (fFine 6 x y))) w) : gM g d mX8_fine [.int 6, .double x, .double y] w Q := by
  refine gM.of (by decide) (Nat.le_of_ble_eq_true rfl) ?_
  obtain ⟨hx1, hx2⟩ := dOK_iff.mp hx
  obtain ⟨hy1, hy2⟩ := dOK_iff.mp hy
  have ev : fFine 6 x y = (if sLess2 x y = 0 then x else y) := by rw [less2_6 hx1 hy1, great_eq hx1 hy1]; simp [fFine, mChosen]
  rw [ev] at k
  refine g_iload_n dX8_fine_0 rfl ?_
  refine g_tableIn (off := 103) 104 dX8_fine_1 (by rw [show (6 : Int32) = 6 from rfl]; decide) (by rw [show (6 : Int32) = 6 from rfl]; decide) (by rw [show (6 : Int32) = 6 from rfl]; rfl) (by decide) ?_
  refine g_dload_n dX8_fine_104 rfl ?_
  refine g_dload_n dX8_fine_105 rfl ?_
  refine g_callS (d1 := d - 1) (As := [_, _]) dX8_fine_106 sX8_13 (by omega) rfl rfl (Nat.le_of_ble_eq_true rfl) ?_
  refine c_isLess hx1 ?_
  refine g_if_eq 116 dX8_fine_109 (by decide) (fun c1 => ?_) (fun c1 => ?_)
  · refine g_dload_n dX8_fine_116 rfl ?_
    refine g_dret dX8_fine_117 rfl ?_
    rw [if_pos c1] at k
    exact k
  · refine g_dload_n dX8_fine_112 rfl ?_
    refine g_goto 117 dX8_fine_113 (by decide) ?_
    refine g_dret dX8_fine_117 rfl ?_
    rw [if_neg c1] at k
    exact k
set_option maxHeartbeats 4000000 in
set_option maxRecDepth 20000 in
theorem c_fine7 {g : GE} {d : Nat} {w : GW} {Q : Option Value → GW → Prop} (hd : 2 ≤ d) {x y : UInt64} (hx : dOK x) (hy : dOK y) (k : Q (some (.double (fFine 7 x y))) w) : gM g d mX8_fine [.int 7, .double x, .double y] w Q := by
  refine gM.of (by decide) (Nat.le_of_ble_eq_true rfl) ?_
  obtain ⟨hx1, hx2⟩ := dOK_iff.mp hx
  obtain ⟨hy1, hy2⟩ := dOK_iff.mp hy
  have ev : fFine 7 x y = (if sMin x = sMin y then x else FP.dneg x) := by simp [fFine, mChosen, mSigned]
  rw [ev] at k
  refine g_iload_n dX8_fine_0 rfl ?_
  refine g_tableIn (off := 117) 118 dX8_fine_1 (by rw [show (7 : Int32) = 7 from rfl]; decide) (by rw [show (7 : Int32) = 7 from rfl]; decide) (by rw [show (7 : Int32) = 7 from rfl]; rfl) (by decide) ?_
  refine g_dload_n dX8_fine_118 rfl ?_
  refine g_callS (d1 := d - 1) (As := [_]) dX8_fine_119 sX8_17 (by omega) rfl rfl (Nat.le_of_ble_eq_true rfl) ?_
  refine c_hasMinus hx1 ?_
  refine g_dload_n dX8_fine_122 rfl ?_
  refine g_callS (d1 := d - 1) (As := [_]) dX8_fine_123 sX8_17 (by omega) rfl rfl (Nat.le_of_ble_eq_true rfl) ?_
  refine c_hasMinus hy1 ?_
  refine g_icmp_ne 133 dX8_fine_126 (by decide) (fun c1 => ?_) (fun c1 => ?_)
  · refine g_dload_n dX8_fine_133 rfl ?_
    refine g_dneg dX8_fine_134 ?_
    refine g_dret dX8_fine_135 rfl ?_
    rw [if_neg c1] at k
    exact k
  · refine g_dload_n dX8_fine_129 rfl ?_
    refine g_goto 135 dX8_fine_130 (by decide) ?_
    refine g_dret dX8_fine_135 rfl ?_
    rw [if_pos c1] at k
    exact k
set_option maxHeartbeats 4000000 in
set_option maxRecDepth 20000 in
theorem c_fine8 {g : GE} {d : Nat} {w : GW} {Q : Option Value → GW → Prop} (hd : 2 ≤ d) {x y : UInt64} (hx : dOK x) (hy : dOK y) (k : Q (some (.double (fFine 8 x y))) w) : gM g d mX8_fine [.int 8, .double x, .double y] w Q := by
  refine gM.of (by decide) (Nat.le_of_ble_eq_true rfl) ?_
  obtain ⟨hx1, hx2⟩ := dOK_iff.mp hx
  obtain ⟨hy1, hy2⟩ := dOK_iff.mp hy
  have ev : fFine 8 x y = (if sMin y = 0 then y else FP.dneg y) := by simp [fFine, mChosen, mSigned]
  rw [ev] at k
  refine g_iload_n dX8_fine_0 rfl ?_
  refine g_tableIn (off := 135) 136 dX8_fine_1 (by rw [show (8 : Int32) = 8 from rfl]; decide) (by rw [show (8 : Int32) = 8 from rfl]; decide) (by rw [show (8 : Int32) = 8 from rfl]; rfl) (by decide) ?_
  refine g_dload_n dX8_fine_136 rfl ?_
  refine g_callS (d1 := d - 1) (As := [_]) dX8_fine_137 sX8_17 (by omega) rfl rfl (Nat.le_of_ble_eq_true rfl) ?_
  refine c_hasMinus hy1 ?_
  refine g_if_eq 148 dX8_fine_140 (by decide) (fun c1 => ?_) (fun c1 => ?_)
  · refine g_dload_n dX8_fine_148 rfl ?_
    refine g_dret dX8_fine_149 rfl ?_
    rw [if_pos c1] at k
    exact k
  · refine g_dload_n dX8_fine_143 rfl ?_
    refine g_dneg dX8_fine_144 ?_
    refine g_goto 149 dX8_fine_145 (by decide) ?_
    refine g_dret dX8_fine_149 rfl ?_
    rw [if_neg c1] at k
    exact k
set_option maxHeartbeats 4000000 in
set_option maxRecDepth 20000 in
theorem c_fine9 {g : GE} {d : Nat} {w : GW} {Q : Option Value → GW → Prop} (hd : 2 ≤ d) {x y : UInt64} (hx : dOK x) (hy : dOK y) (k : Q (some (.double (fFine 9 x y))) w) : gM g d mX8_fine [.int 9, .double x, .double y] w Q := by
  refine gM.of (by decide) (Nat.le_of_ble_eq_true rfl) ?_
  obtain ⟨hx1, hx2⟩ := dOK_iff.mp hx
  obtain ⟨hy1, hy2⟩ := dOK_iff.mp hy
  have ev : fFine 9 x y = sBelow y := by rw [below_eq hy]; simp [fFine, mChosen]
  rw [ev] at k
  refine g_iload_n dX8_fine_0 rfl ?_
  refine g_tableIn (off := 149) 150 dX8_fine_1 (by rw [show (9 : Int32) = 9 from rfl]; decide) (by rw [show (9 : Int32) = 9 from rfl]; decide) (by rw [show (9 : Int32) = 9 from rfl]; rfl) (by decide) ?_
  refine g_dload_n dX8_fine_150 rfl ?_
  refine g_callS (d1 := d - 1) (As := [_]) dX8_fine_151 sX8_21 (by omega) rfl rfl (Nat.le_of_ble_eq_true rfl) ?_
  refine c_wholeBelow hy1 ?_
  refine g_dret dX8_fine_154 rfl ?_
  exact k
set_option maxHeartbeats 4000000 in
set_option maxRecDepth 20000 in
theorem c_fine10 {g : GE} {d : Nat} {w : GW} {Q : Option Value → GW → Prop} (hd : 2 ≤ d) {x y : UInt64} (hx : dOK x) (hy : dOK y) (k : Q (some (.double (fFine 10 x y))) w) : gM g d mX8_fine [.int 10, .double x, .double y] w Q := by
  refine gM.of (by decide) (Nat.le_of_ble_eq_true rfl) ?_
  obtain ⟨hx1, hx2⟩ := dOK_iff.mp hx
  obtain ⟨hy1, hy2⟩ := dOK_iff.mp hy
  have ev : fFine 10 x y = FP.dneg (sBelow (FP.dneg y)) := by rw [above_eq hy]; simp [fFine, mChosen]
  rw [ev] at k
  refine g_iload_n dX8_fine_0 rfl ?_
  refine g_tableIn (off := 154) 155 dX8_fine_1 (by rw [show (10 : Int32) = 10 from rfl]; decide) (by rw [show (10 : Int32) = 10 from rfl]; decide) (by rw [show (10 : Int32) = 10 from rfl]; rfl) (by decide) ?_
  refine g_dload_n dX8_fine_155 rfl ?_
  refine g_dneg dX8_fine_156 ?_
  refine g_callS (d1 := d - 1) (As := [_]) dX8_fine_157 sX8_21 (by omega) rfl rfl (Nat.le_of_ble_eq_true rfl) ?_
  refine c_wholeBelow (DF_neg hy1) ?_
  refine g_dneg dX8_fine_160 ?_
  refine g_dret dX8_fine_161 rfl ?_
  exact k
set_option maxHeartbeats 4000000 in
set_option maxRecDepth 20000 in
theorem c_fine11 {g : GE} {d : Nat} {w : GW} {Q : Option Value → GW → Prop} (hd : 2 ≤ d) {x y : UInt64} (hx : dOK x) (hy : dOK y) (k : Q (some (.double (fFine 11 x y))) w) : gM g d mX8_fine [.int 11, .double x, .double y] w Q := by
  refine gM.of (by decide) (Nat.le_of_ble_eq_true rfl) ?_
  obtain ⟨hx1, hx2⟩ := dOK_iff.mp hx
  obtain ⟨hy1, hy2⟩ := dOK_iff.mp hy
  have ev : fFine 11 x y = sNear y := by rw [near_eq hy]; simp [fFine, mChosen]
  rw [ev] at k
  refine g_iload_n dX8_fine_0 rfl ?_
  refine g_tableIn (off := 161) 162 dX8_fine_1 (by rw [show (11 : Int32) = 11 from rfl]; decide) (by rw [show (11 : Int32) = 11 from rfl]; decide) (by rw [show (11 : Int32) = 11 from rfl]; rfl) (by decide) ?_
  refine g_dload_n dX8_fine_162 rfl ?_
  refine g_callS (d1 := d - 1) (As := [_]) dX8_fine_163 sX8_25 (by omega) rfl rfl (Nat.le_of_ble_eq_true rfl) ?_
  refine c_nearestWhole hy1 ?_
  refine g_dret dX8_fine_166 rfl ?_
  exact k
set_option maxHeartbeats 4000000 in
set_option maxRecDepth 20000 in
theorem c_fine12 {g : GE} {d : Nat} {w : GW} {Q : Option Value → GW → Prop} (hd : 2 ≤ d) {x y : UInt64} (hx : dOK x) (hy : dOK y) (k : Q (some (.double (fFine 12 x y))) w) : gM g d mX8_fine [.int 12, .double x, .double y] w Q := by
  refine gM.of (by decide) (Nat.le_of_ble_eq_true rfl) ?_
  obtain ⟨hx1, hx2⟩ := dOK_iff.mp hx
  obtain ⟨hy1, hy2⟩ := dOK_iff.mp hy
  have ev : fFine 12 x y = mSgn y := by simp [fFine, mChosen]
  rw [ev] at k
  refine g_iload_n dX8_fine_0 rfl ?_
  refine g_tableIn (off := 166) 167 dX8_fine_1 (by rw [show (12 : Int32) = 12 from rfl]; decide) (by rw [show (12 : Int32) = 12 from rfl]; decide) (by rw [show (12 : Int32) = 12 from rfl]; rfl) (by decide) ?_
  refine g_dload_n dX8_fine_167 rfl ?_
  refine g_dconst0 dX8_fine_168 ?_
  refine g_dcmp dX8_fine_169 ?_
  refine g_if_le 177 dX8_fine_170 (by decide) (fun c1 => ?_) (fun c1 => ?_)
  · refine g_dload_n dX8_fine_177 rfl ?_
    refine g_dconst0 dX8_fine_178 ?_
    refine g_dcmp dX8_fine_179 ?_
    refine g_if_ge 189 dX8_fine_180 (by decide) (fun c2 => ?_) (fun c2 => ?_)
    · refine g_dload_n dX8_fine_189 rfl ?_
      refine g_dret dX8_fine_190 rfl ?_
      simp only [cv_gtl, cv_gtg, cv_lel, cv_gel, cv_geg, cv_ltl, cv_ltg, cv_leg, cv_eql, cv_eqg, Classical.not_not] at c1 c2
      unfold mSgn at k
      rw [if_neg c1, if_neg c2] at k
      exact k
    · refine g_ldc2d dX8_fine_183 qX8_28 ?_
      refine g_goto 190 dX8_fine_186 (by decide) ?_
      refine g_dret dX8_fine_190 rfl ?_
      simp only [cv_gtl, cv_gtg, cv_lel, cv_gel, cv_geg, cv_ltl, cv_ltg, cv_leg, cv_eql, cv_eqg, Classical.not_not] at c1 c2
      unfold mSgn at k
      rw [if_neg c1, if_pos c2] at k
      exact k
  · refine g_dconst1 dX8_fine_173 ?_
    refine g_goto 190 dX8_fine_174 (by decide) ?_
    refine g_dret dX8_fine_190 rfl ?_
    simp only [cv_gtl, cv_gtg, cv_lel, cv_gel, cv_geg, cv_ltl, cv_ltg, cv_leg, cv_eql, cv_eqg, Classical.not_not] at c1
    unfold mSgn at k
    rw [if_pos c1] at k
    exact k
set_option maxHeartbeats 4000000 in
set_option maxRecDepth 20000 in
theorem c_fine13 {g : GE} {d : Nat} {w : GW} {Q : Option Value → GW → Prop} (hd : 2 ≤ d) {x y : UInt64} (hx : dOK x) (hy : dOK y) (k : Q (some (.double (fFine 13 x y))) w) : gM g d mX8_fine [.int 13, .double x, .double y] w Q := by
  refine gM.of (by decide) (Nat.le_of_ble_eq_true rfl) ?_
  obtain ⟨hx1, hx2⟩ := dOK_iff.mp hx
  obtain ⟨hy1, hy2⟩ := dOK_iff.mp hy
  have ev : fFine 13 x y = FP.l2d (FP.d2l y) := by simp [fFine]
  rw [ev] at k
  refine g_iload_n dX8_fine_0 rfl ?_
  refine g_tableOut 191 dX8_fine_1 (by rw [show (13 : Int32) = 13 from rfl]; decide) (by decide) ?_
  refine g_dload_n dX8_fine_191 rfl ?_
  refine g_d2l dX8_fine_192 ?_
  refine g_l2d dX8_fine_193 ?_
  refine g_dret dX8_fine_194 rfl ?_
  exact k
theorem c_fine {g : GE} {d : Nat} {w : GW} {Q : Option Value → GW → Prop} (hd : 2 ≤ d) {x y : UInt64} (hx : dOK x) (hy : dOK y) {h : Nat} (hh : h < 14) (h0 : h = 3 ∨ h = 4 → ¬ FP.dcmp y FP.dconst0 = some .eq) (k : Q (some (.double (fFine (nI h) x y))) w) : gM g d mX8_fine [.int (nI h), .double x, .double y] w Q := by
  rcases (show h = 0 ∨ h = 1 ∨ h = 2 ∨ h = 3 ∨ h = 4 ∨ h = 5 ∨ h = 6 ∨ h = 7 ∨ h = 8 ∨ h = 9 ∨ h = 10 ∨ h = 11 ∨ h = 12 ∨ h = 13 by omega) with rfl | rfl | rfl | rfl | rfl | rfl | rfl | rfl | rfl | rfl | rfl | rfl | rfl | rfl
  · exact c_fine0 hd hx hy k
  · exact c_fine1 hd hx hy k
  · exact c_fine2 hd hx hy k
  · exact c_fine3 hd hx hy (h0 (by omega)) k
  · exact c_fine4 hd hx hy (h0 (by omega)) k
  · exact c_fine5 hd hx hy k
  · exact c_fine6 hd hx hy k
  · exact c_fine7 hd hx hy k
  · exact c_fine8 hd hx hy k
  · exact c_fine9 hd hx hy k
  · exact c_fine10 hd hx hy k
  · exact c_fine11 hd hx hy k
  · exact c_fine12 hd hx hy k
  · exact c_fine13 hd hx hy k
theorem rough_fine {x y : UInt32} (fx : FF x) (fy : FF y) {h : Nat} (h4 : 4 ≤ h) (hh : h < 14) (h0 : h = 4 → ¬ FP.fcmp y FP.fconst0 = some .eq) : fRough (nI h) x y = fFine (nI h) (FP.f2d x) (FP.f2d y) := by
  rcases (show h = 4 ∨ h = 5 ∨ h = 6 ∨ h = 7 ∨ h = 8 ∨ h = 9 ∨ h = 10 ∨ h = 11 ∨ h = 12 ∨ h = 13 by omega) with rfl | rfl | rfl | rfl | rfl | rfl | rfl | rfl | rfl | rfl
  · have e1 : fRough (nI 4) x y = FP.f2d (FP.frem x y) := by unfold fRough; rw [if_neg (by decide), if_neg (by decide), if_neg (by decide), if_neg (by decide), if_pos (by decide)]
    have e2 : fFine (nI 4) (FP.f2d x) (FP.f2d y) = FP.drem (FP.f2d x) (FP.f2d y) := by unfold fFine; rw [if_neg (by decide), if_neg (by decide), if_neg (by decide), if_neg (by decide), if_pos (by decide)]
    rw [e1, e2]
    exact (z_frem fx fy (y_nz fy (h0 rfl))).1
  · unfold fRough fFine; rw [if_neg (by decide), if_neg (by decide), if_neg (by decide), if_neg (by decide), if_neg (by decide), if_neg (by decide), if_neg (by decide), if_neg (by decide), if_neg (by decide), if_neg (by decide), if_neg (by decide), if_neg (by decide)]
  · unfold fRough fFine; rw [if_neg (by decide), if_neg (by decide), if_neg (by decide), if_neg (by decide), if_neg (by decide), if_neg (by decide), if_neg (by decide), if_neg (by decide), if_neg (by decide), if_neg (by decide), if_neg (by decide), if_neg (by decide)]
  · unfold fRough fFine; rw [if_neg (by decide), if_neg (by decide), if_neg (by decide), if_neg (by decide), if_neg (by decide), if_neg (by decide), if_neg (by decide), if_neg (by decide), if_neg (by decide), if_neg (by decide), if_neg (by decide), if_neg (by decide)]
  · unfold fRough fFine; rw [if_neg (by decide), if_neg (by decide), if_neg (by decide), if_neg (by decide), if_neg (by decide), if_neg (by decide), if_neg (by decide), if_neg (by decide), if_neg (by decide), if_neg (by decide), if_neg (by decide), if_neg (by decide)]
  · unfold fRough fFine; rw [if_neg (by decide), if_neg (by decide), if_neg (by decide), if_neg (by decide), if_neg (by decide), if_neg (by decide), if_neg (by decide), if_neg (by decide), if_neg (by decide), if_neg (by decide), if_neg (by decide), if_neg (by decide)]
  · unfold fRough fFine; rw [if_neg (by decide), if_neg (by decide), if_neg (by decide), if_neg (by decide), if_neg (by decide), if_neg (by decide), if_neg (by decide), if_neg (by decide), if_neg (by decide), if_neg (by decide), if_neg (by decide), if_neg (by decide)]
  · unfold fRough fFine; rw [if_neg (by decide), if_neg (by decide), if_neg (by decide), if_neg (by decide), if_neg (by decide), if_neg (by decide), if_neg (by decide), if_neg (by decide), if_neg (by decide), if_neg (by decide), if_neg (by decide), if_neg (by decide)]
  · unfold fRough fFine; rw [if_neg (by decide), if_neg (by decide), if_neg (by decide), if_neg (by decide), if_neg (by decide), if_neg (by decide), if_neg (by decide), if_neg (by decide), if_neg (by decide), if_neg (by decide), if_neg (by decide), if_neg (by decide)]
  · have e1 : fRough (nI 13) x y = FP.l2d (FP.f2l y) := by unfold fRough; rw [if_neg (by decide), if_neg (by decide), if_neg (by decide), if_neg (by decide), if_neg (by decide), if_pos (by decide)]
    have e2 : fFine (nI 13) (FP.f2d x) (FP.f2d y) = FP.l2d (FP.d2l (FP.f2d y)) := by unfold fFine; rw [if_neg (by decide), if_neg (by decide), if_neg (by decide), if_neg (by decide), if_neg (by decide), if_pos (by decide)]
    rw [e1, e2, z_f2l fy]
theorem f2d_nz {y : UInt32} (fy : FF y) (h : ¬ FP.fcmp y FP.fconst0 = some .eq) : ¬ FP.dcmp (FP.f2d y) FP.dconst0 = some .eq := by
  intro q
  have h1 := (zc_eq (DF_f2d fy) DF_zero).mp q
  rw [z_0.2.2, zv_zero, (z_f2d fy).2] at h1
  rcases Nat.mul_eq_zero.mp h1 with z | z
  · exact y_nz fy h z
  · exact absurd z (Nat.ne_of_gt yK_pos)
set_option maxHeartbeats 4000000 in
set_option maxRecDepth 20000 in
theorem c_rough0 {g : GE} {d : Nat} {w : GW} {Q : Option Value → GW → Prop} {x y : UInt32} (fx : FF x) (fy : FF y) (k : Q (some (.float (FP.fadd x y))) w) : gM g d mX8_rough [.int 0, .float x, .float y] w Q := by
  refine gM.of (by decide) (Nat.le_of_ble_eq_true rfl) ?_
  refine g_iload_n dX8_rough_0 rfl ?_
  refine g_tableIn (off := 27) 28 dX8_rough_1 (by rw [show (0 : Int32) = 0 from rfl]; decide) (by rw [show (0 : Int32) = 0 from rfl]; decide) (by rw [show (0 : Int32) = 0 from rfl]; rfl) (by decide) ?_
  refine g_fload_n dX8_rough_28 rfl ?_
  refine g_fload_n dX8_rough_29 rfl ?_
  refine g_fadd dX8_rough_30 (n32 (f_add fx fy)) ?_
  refine g_fret dX8_rough_31 rfl ?_
  exact k
set_option maxHeartbeats 4000000 in
set_option maxRecDepth 20000 in
theorem c_rough1 {g : GE} {d : Nat} {w : GW} {Q : Option Value → GW → Prop} {x y : UInt32} (fx : FF x) (fy : FF y) (k : Q (some (.float (FP.fsub x y))) w) : gM g d mX8_rough [.int 1, .float x, .float y] w Q := by
  refine gM.of (by decide) (Nat.le_of_ble_eq_true rfl) ?_
  refine g_iload_n dX8_rough_0 rfl ?_
  refine g_tableIn (off := 31) 32 dX8_rough_1 (by rw [show (1 : Int32) = 1 from rfl]; decide) (by rw [show (1 : Int32) = 1 from rfl]; decide) (by rw [show (1 : Int32) = 1 from rfl]; rfl) (by decide) ?_
  refine g_fload_n dX8_rough_32 rfl ?_
  refine g_fload_n dX8_rough_33 rfl ?_
  refine g_fsub dX8_rough_34 (n32 (f_sub fx fy)) ?_
  refine g_fret dX8_rough_35 rfl ?_
  exact k
set_option maxHeartbeats 4000000 in
set_option maxRecDepth 20000 in
theorem c_rough2 {g : GE} {d : Nat} {w : GW} {Q : Option Value → GW → Prop} {x y : UInt32} (fx : FF x) (fy : FF y) (k : Q (some (.float (FP.fmul x y))) w) : gM g d mX8_rough [.int 2, .float x, .float y] w Q := by
  refine gM.of (by decide) (Nat.le_of_ble_eq_true rfl) ?_
  refine g_iload_n dX8_rough_0 rfl ?_
  refine g_tableIn (off := 35) 36 dX8_rough_1 (by rw [show (2 : Int32) = 2 from rfl]; decide) (by rw [show (2 : Int32) = 2 from rfl]; decide) (by rw [show (2 : Int32) = 2 from rfl]; rfl) (by decide) ?_
  refine g_fload_n dX8_rough_36 rfl ?_
  refine g_fload_n dX8_rough_37 rfl ?_
  refine g_fmul dX8_rough_38 (n32 (f_mul fx fy)) ?_
  refine g_fret dX8_rough_39 rfl ?_
  exact k
set_option maxHeartbeats 4000000 in
set_option maxRecDepth 20000 in
theorem c_rough3 {g : GE} {d : Nat} {w : GW} {Q : Option Value → GW → Prop} {x y : UInt32} (fx : FF x) (fy : FF y) (h0 : ¬ FP.fcmp y FP.fconst0 = some .eq) (k : Q (some (.float (FP.fdiv x y))) w) : gM g d mX8_rough [.int 3, .float x, .float y] w Q := by
  refine gM.of (by decide) (Nat.le_of_ble_eq_true rfl) ?_
  refine g_iload_n dX8_rough_0 rfl ?_
  refine g_tableOut 40 dX8_rough_1 (by rw [show (3 : Int32) = 3 from rfl]; decide) (by decide) ?_
  refine g_fload_n dX8_rough_40 rfl ?_
  refine g_fload_n dX8_rough_41 rfl ?_
  refine g_fdiv dX8_rough_42 (n32 (f_div fx fy h0)) ?_
  refine g_fret dX8_rough_43 rfl ?_
  exact k
theorem c_rough {g : GE} {d : Nat} {w : GW} (hd : 2 ≤ d) {x y : UInt32} (fx : FF x) (fy : FF y) (hx : dOK (FP.f2d x)) (hy : dOK (FP.f2d y)) {h : Nat} (hh : h < 14) (h0 : h = 3 ∨ h = 4 → ¬ FP.fcmp y FP.fconst0 = some .eq) : RSum g d w (nI h) x y (fRough (nI h) x y) := by
  refine ⟨fun h3 => ?_, fun h3 => ?_⟩
  · have h4 : h ≤ 3 := Nat.le_of_not_lt (fun z => nI_ge (b := h) (a := 3) z (by omega) h3)
    rcases (show h = 0 ∨ h = 1 ∨ h = 2 ∨ h = 3 by omega) with rfl | rfl | rfl | rfl
    · refine ⟨FP.fadd x y, ?_, nn32_f2d (f_add fx fy), fun Q1 k => c_rough0 fx fy k⟩
      unfold fRough; rw [if_pos (by decide)]
    · refine ⟨FP.fsub x y, ?_, nn32_f2d (f_sub fx fy), fun Q1 k => c_rough1 fx fy k⟩
      unfold fRough; rw [if_neg (by decide), if_pos (by decide)]
    · refine ⟨FP.fmul x y, ?_, nn32_f2d (f_mul fx fy), fun Q1 k => c_rough2 fx fy k⟩
      unfold fRough; rw [if_neg (by decide), if_neg (by decide), if_pos (by decide)]
    · refine ⟨FP.fdiv x y, ?_, nn32_f2d (f_div fx fy (h0 (Or.inl rfl))), fun Q1 k => c_rough3 fx fy (h0 (Or.inl rfl)) k⟩
      unfold fRough; rw [if_neg (by decide), if_neg (by decide), if_neg (by decide), if_pos (by decide)]
  · have h4 : 4 ≤ h := Nat.lt_of_not_le (fun z => h3 (nI_le (b := 3) z (by decide)))
    refine ⟨nn32_f2d fx.nn, nn32_f2d fy.nn, fun Q1 k => ?_⟩
    rw [rough_fine fx fy h4 hh (fun q => h0 (Or.inr q))] at k
    exact c_fine hd hx hy hh (fun q => f2d_nz fy (h0 q)) k
/-! no sum is NaN -/
theorem nv_f2d {x : UInt32} (h : FP.Core.val32 x ≠ .nan) : FP.Core.val64 (FP.f2d x) ≠ .nan := by
  have h1 : FP.fIsNaN x = false := (FP.Core.notNaN_iff32 x).mpr h
  have h2 : FP.dIsNaN (FP.f2d x) = false := (FP.f2d_nan x).trans h1
  exact (FP.Core.notNaN_iff _).mp h2
theorem DF_upper (y : UInt64) : DF (mUpper y) := by
  unfold mUpper
  refine DF_signed0 ?_ y
  split
  · exact DF_l2d_add _
  · exact DF_l2d _
theorem DF_nearest (y : UInt64) : DF (mNear y) := by
  unfold mNear
  split
  · exact DF_signed0 (DF_near y) y
  · exact DF_signed0 (DF_lower y) y
theorem DF_m1 : DF dM1 := (FP.Core.fin_bits _).mpr (by decide)
theorem nn_fine {x y : UInt64} (hx : DF x) (hy : DF y) {h : Int32} (h0 : h = 3 ∨ h = 4 → ¬ FP.dcmp y FP.dconst0 = some .eq) : FP.Core.val64 (fFine h x y) ≠ .nan := by
  unfold fFine
  split
  · exact nv_add hx hy
  split
  · exact nn_subv hx hy
  split
  · exact nv_mul hx hy
  split
  · exact nv_div hx hy (nz_zm hy (h0 (Or.inl (by assumption))))
  split
  · exact (z_rem hx hy (nz_zm hy (h0 (Or.inr (by assumption))))).1.nn
  split
  · exact (DF_l2d _).nn
  unfold mChosen
  split
  · split
    · exact hy.nn
    · exact hx.nn
  split
  · unfold mGreat
    split
    · exact hx.nn
    split
    · split
      · exact hx.nn
      · exact hy.nn
    · exact hy.nn
  split
  · exact (DF_signed hx _).nn
  split
  · exact (DF_signed hy _).nn
  split
  · exact (DF_lower y).nn
  split
  · exact (DF_upper y).nn
  split
  · exact (DF_nearest y).nn
  · unfold mSgn
    split
    · exact DF_one.nn
    split
    · exact DF_m1.nn
    · exact hy.nn
theorem nn_rough {x y : UInt32} (fx : FF x) (fy : FF y) {h : Nat} (hh : h < 14) (h0 : h = 3 ∨ h = 4 → ¬ FP.fcmp y FP.fconst0 = some .eq) : FP.Core.val64 (fRough (nI h) x y) ≠ .nan := by
  by_cases h4 : 4 ≤ h
  · rw [rough_fine fx fy h4 hh (fun q => h0 (Or.inr q))]
    refine nn_fine (DF_f2d fx) (DF_f2d fy) (fun q => f2d_nz fy (h0 ?_))
    rcases q with q | q
    · exact Or.inl ((nI_eq (b := 3) (by omega) (by decide)).mp q)
    · exact Or.inr ((nI_eq (b := 4) (by omega) (by decide)).mp q)
  · rcases (show h = 0 ∨ h = 1 ∨ h = 2 ∨ h = 3 by omega) with rfl | rfl | rfl | rfl
    · rw [show fRough (nI 0) x y = FP.f2d (FP.fadd x y) by unfold fRough; rw [if_pos (by decide)]]
      exact nv_f2d (f_add fx fy)
    · rw [show fRough (nI 1) x y = FP.f2d (FP.fsub x y) by unfold fRough; rw [if_neg (by decide), if_pos (by decide)]]
      exact nv_f2d (f_sub fx fy)
    · rw [show fRough (nI 2) x y = FP.f2d (FP.fmul x y) by unfold fRough; rw [if_neg (by decide), if_neg (by decide), if_pos (by decide)]]
      exact nv_f2d (f_mul fx fy)
    · rw [show fRough (nI 3) x y = FP.f2d (FP.fdiv x y) by unfold fRough; rw [if_neg (by decide), if_neg (by decide), if_neg (by decide), if_pos (by decide)]]
      exact nv_f2d (f_div fx fy (h0 (Or.inl rfl)))
