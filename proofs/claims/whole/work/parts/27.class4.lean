/-- a new fault at the heap's end, thrown -/
def thrF (g : GE) (w : GW) (k p n e f t : Int32) : GW := setR (setF (newO w 3 6) (gN w) k p n e f t) 8 (eB g + 1) (some (gN w))
set_option maxHeartbeats 4000000 in
set_option maxRecDepth 20000 in
theorem c_throwNone {g : GE} {d : Nat} {w : GW} {Q : Option Value → GW → Prop} {q : Nat} (k : Q (some (.int 0)) w) : gM g d mX0_throwNew [.ref (eB g + 1), .int 0, .ref q] w Q := by
  refine gM.of (by decide) (Nat.le_of_ble_eq_true rfl) ?_
  refine g_iload_n dX0_throwNew_0 rfl ?_
  refine g_if_ne 8 dX0_throwNew_1 (by decide) (fun q => absurd (rfl) q) (fun _ => ?_)
  refine g_iconstV (v := 0) dX0_throwNew_4 (by decide) ?_
  refine g_goto 26 dX0_throwNew_5 (by decide) ?_
  refine g_iret dX0_throwNew_26 rfl ?_
  exact k
theorem SK.setF {g : GE} {w : GW} (h : SK g w) {a : Nat} {k p n e f t : Int32} : SK g (setF w a k p n e f t) := ((((((h.setI 192 a k (by decide)).setI 193 a p (by decide)).setI 194 a n (by decide)).setI 195 a e (by decide)).setI 196 a f (by decide)).setI 197 a t (by decide))
set_option maxHeartbeats 4000000 in
set_option maxRecDepth 20000 in
theorem c_throwNew {g : GE} {d : Nat} {w : GW} {Q : Option Value → GW → Prop} (hd : 2 ≤ d) {q : Nat} {kd : Int32} (hS : SK g w) (hq : gOb g w q 7) (hk : ¬ kd = 0) (k : Q (some (.int 3)) (thrF g w kd (gI w 453 q) 0 0 (gI w 453 q) (fWeight kd 0 1))) : gM g d mX0_throwNew [.ref (eB g + 1), .int kd, .ref q] w Q := by
  refine gM.of (by decide) (Nat.le_of_ble_eq_true rfl) ?_
  have hB : eB g ≤ gN w := by have := hS.1; omega
  have hq2 := gOb_newO (c := 3) (N := 6) hq
  have hq3 : gI (newO w 3 6) 453 q = gI w 453 q := by rw [gI_newO, nul2, if_neg (Nat.ne_of_lt hq.2.1)]
  have hs2 := hS.newO 3 6
  have ha := gOb_selfO (g := g) (ci := 3) (N := 6) hB
  have o1 := hs2.ob 1 rfl
  refine g_iload_n dX0_throwNew_0 rfl ?_
  refine g_if_ne 8 dX0_throwNew_1 (by decide) (fun _ => ?_) (fun q => absurd q (hk))
  refine g_aload_n dX0_throwNew_8 rfl ?_
  refine g_new 3 6 dX0_throwNew_9 nX0_68 rfl ?_
  refine g_dup dX0_throwNew_12 rfl ?_
  refine g_iload_n dX0_throwNew_13 rfl ?_
  refine g_aload_n dX0_throwNew_14 rfl ?_
  refine g_getI 7 5 453 dX0_throwNew_15 fX0_119 rfl rfl hq2 ?_
  rw [hq3]
  refine g_iconstV (v := 0) dX0_throwNew_18 (by decide) ?_
  refine g_null dX0_throwNew_19 ?_
  refine g_callI (d1 := d - 1) (As := [_, _, _, _]) dX0_throwNew_20 iX0_125 (by omega) rfl rfl (Nat.le_of_ble_eq_true rfl) ?_
  refine c_Fault0 (by omega) ha ?_
  refine g_callV (d1 := d - 1) (As := [_]) 0 dX0_throwNew_23 vX0_128 (by omega) (by assumption) rfl rfl (Nat.le_of_ble_eq_true rfl) ?_
  refine c_leaveBy (w := setF (newO w 3 6) (gN w) kd (gI w 453 q) 0 0 (gI w 453 q) (fWeight kd 0 1)) (hs2.setF) ?_
  refine g_iret dX0_throwNew_26 rfl ?_
  exact k
set_option maxHeartbeats 4000000 in
set_option maxRecDepth 20000 in
theorem c_isSo {g : GE} {d : Nat} {w : GW} {Q : Option Value → GW → Prop} (hd : 1 ≤ d) {q a c : Nat} (hS : SK g w) (hq : gOb g w q 7) (ha : gI w 449 q = nI a) (ha2 : a < 8) (hc : gI w 451 q = nI c) (hc2 : c < 8) (hnn : FP.dcmp (gD w (eB g + 67) a) (gD w (eB g + 67) c) ≠ none) (k : Q (some (.int (fSo (gI w 450 q) (gD w (eB g + 67) a) (gD w (eB g + 67) c)))) w) : gM g d mX0_isSo [.ref (eB g + 1), .ref q] w Q := by
  refine gM.of (by decide) (Nat.le_of_ble_eq_true rfl) ?_
  have o1 : gOb g w (eB g + 1) 0 := hS.ob 1 rfl
  have o66 : gOb g w (eB g + 66) 2 := hS.ob 66 rfl
  have r2 : gR w 2 (eB g + 1) = some (eB g + 66) := hS.rf 2 1 66 (by decide)
  have o68 : gOb g w (eB g + 68) 4 := hS.ob 68 rfl
  have r3 : gR w 3 (eB g + 1) = some (eB g + 68) := hS.rf 3 1 68 (by decide)
  refine g_aload_n dX0_isSo_0 rfl ?_
  refine g_getR 0 2 2 dX0_isSo_1 fX0_32 rfl rfl (by assumption) (by assumption) ?_
  refine g_aload_n dX0_isSo_4 rfl ?_
  refine g_getI 7 1 449 dX0_isSo_5 fX0_122 rfl rfl (by assumption) ?_
  refine g_callV (d1 := d - 1) (As := [_]) 2 dX0_isSo_8 vX0_168 (by omega) (by assumption) rfl rfl (Nat.le_of_ble_eq_true rfl) ?_
  refine c_at hS ?_
  rw [ha, cAt_in ha2]
  refine g_dstore_n dX0_isSo_11 (by decide) rfl ?_
  refine g_aload_n dX0_isSo_12 rfl ?_
  refine g_getR 0 2 2 dX0_isSo_13 fX0_32 rfl rfl (by assumption) (by assumption) ?_
  refine g_aload_n dX0_isSo_16 rfl ?_
  refine g_getI 7 3 451 dX0_isSo_17 fX0_172 rfl rfl (by assumption) ?_
  refine g_callV (d1 := d - 1) (As := [_]) 2 dX0_isSo_20 vX0_168 (by omega) (by assumption) rfl rfl (Nat.le_of_ble_eq_true rfl) ?_
  refine c_at hS ?_
  rw [hc, cAt_in hc2]
  refine g_dstore dX0_isSo_23 (by decide) rfl ?_
  refine g_aload_n dX0_isSo_25 rfl ?_
  refine g_getI 7 2 450 dX0_isSo_26 fX0_175 rfl rfl (by assumption) ?_
  refine g_tsw dX0_isSo_29 [56, 69, 82] 95 (by decide) (by decide) (by decide) (by decide) (by decide) ?_ (fun c1 => ?_)
  · simp only [tswK]
    refine ⟨fun c1 => ?_, fun c1 => ?_, fun c1 => ?_, trivial⟩
    · replace c1 := c1.trans (by decide : _ = (0 : Int32))
      refine g_dload_n dX0_isSo_56 rfl ?_
      refine g_dload dX0_isSo_57 rfl ?_
      refine g_dcmp dX0_isSo_59 ?_
      refine g_if_ge 67 dX0_isSo_60 (by decide) (fun c2 => ?_) (fun c2 => ?_)
      · refine g_iconstV (v := 0) dX0_isSo_67 (by decide) ?_
        refine g_zret dX0_isSo_68 rfl rfl ?_
        simp only [cv_gtl, cv_gtg, cv_lel, cv_gel, cv_geg, cv_ltl, cv_ltg, cv_leg, cv_eql, cv_eqg, Classical.not_not, hnn, or_false] at c2
        simpa [fSo, c1, c2] using k
      · refine g_iconstV (v := 1) dX0_isSo_63 (by decide) ?_
        refine g_goto 68 dX0_isSo_64 (by decide) ?_
        refine g_zret dX0_isSo_68 rfl rfl ?_
        simp only [cv_gtl, cv_gtg, cv_lel, cv_gel, cv_geg, cv_ltl, cv_ltg, cv_leg, cv_eql, cv_eqg, Classical.not_not, hnn, or_false] at c2
        simpa [fSo, c1, c2] using k
    · replace c1 := c1.trans (by decide : _ = (1 : Int32))
      refine g_dload_n dX0_isSo_69 rfl ?_
      refine g_dload dX0_isSo_70 rfl ?_
      refine g_dcmp dX0_isSo_72 ?_
      refine g_if_ne 80 dX0_isSo_73 (by decide) (fun c3 => ?_) (fun c3 => ?_)
      · refine g_iconstV (v := 0) dX0_isSo_80 (by decide) ?_
        refine g_zret dX0_isSo_81 rfl rfl ?_
        simp only [cv_gtl, cv_gtg, cv_lel, cv_gel, cv_geg, cv_ltl, cv_ltg, cv_leg, cv_eql, cv_eqg, Classical.not_not, hnn, or_false] at c3
        simpa [fSo, c1, c3] using k
      · refine g_iconstV (v := 1) dX0_isSo_76 (by decide) ?_
        refine g_goto 81 dX0_isSo_77 (by decide) ?_
        refine g_zret dX0_isSo_81 rfl rfl ?_
        simp only [cv_gtl, cv_gtg, cv_lel, cv_gel, cv_geg, cv_ltl, cv_ltg, cv_leg, cv_eql, cv_eqg, Classical.not_not, hnn, or_false] at c3
        simpa [fSo, c1, c3] using k
    · replace c1 := c1.trans (by decide : _ = (2 : Int32))
      refine g_dload_n dX0_isSo_82 rfl ?_
      refine g_dload dX0_isSo_83 rfl ?_
      refine g_dcmp dX0_isSo_85 ?_
      refine g_if_eq 93 dX0_isSo_86 (by decide) (fun c4 => ?_) (fun c4 => ?_)
      · refine g_iconstV (v := 0) dX0_isSo_93 (by decide) ?_
        refine g_zret dX0_isSo_94 rfl rfl ?_
        simp only [cv_gtl, cv_gtg, cv_lel, cv_gel, cv_geg, cv_ltl, cv_ltg, cv_leg, cv_eql, cv_eqg, Classical.not_not, hnn, or_false] at c4
        simpa [fSo, c1, c4] using k
      · refine g_iconstV (v := 1) dX0_isSo_89 (by decide) ?_
        refine g_goto 94 dX0_isSo_90 (by decide) ?_
        refine g_zret dX0_isSo_94 rfl rfl ?_
        simp only [cv_gtl, cv_gtg, cv_lel, cv_gel, cv_geg, cv_ltl, cv_ltg, cv_leg, cv_eql, cv_eqg, Classical.not_not, hnn, or_false] at c4
        simpa [fSo, c1, c4] using k
  · have c1n0 := tsw_ne c1 0 (by decide)
    have c1n1 := tsw_ne c1 1 (by decide)
    have c1n2 := tsw_ne c1 2 (by decide)
    refine g_dload_n dX0_isSo_95 rfl ?_
    refine g_dload dX0_isSo_96 rfl ?_
    refine g_dcmp dX0_isSo_98 ?_
    refine g_if_lt 106 dX0_isSo_99 (by decide) (fun c5 => ?_) (fun c5 => ?_)
    · refine g_iconstV (v := 0) dX0_isSo_106 (by decide) ?_
      refine g_zret dX0_isSo_107 rfl rfl ?_
      simp only [cv_gtl, cv_gtg, cv_lel, cv_gel, cv_geg, cv_ltl, cv_ltg, cv_leg, cv_eql, cv_eqg, Classical.not_not, hnn, or_false] at c5
      simpa [fSo, c1n0, c1n1, c1n2, c5] using k
    · refine g_iconstV (v := 1) dX0_isSo_102 (by decide) ?_
      refine g_goto 107 dX0_isSo_103 (by decide) ?_
      refine g_zret dX0_isSo_107 rfl rfl ?_
      simp only [cv_gtl, cv_gtg, cv_lel, cv_gel, cv_geg, cv_ltl, cv_ltg, cv_leg, cv_eql, cv_eqg, Classical.not_not, hnn, or_false] at c5
      simpa [fSo, c1n0, c1n1, c1n2, c5] using k
set_option maxHeartbeats 4000000 in
set_option maxRecDepth 20000 in
theorem c_getIntoF {g : GE} {d : Nat} {w : GW} {Q : Option Value → GW → Prop} (hd : 3 ≤ d) {r c : Nat} {i : Int32} (hS : SK g w) (hr : r < 18) (hf : ¬ fUse g w r i = 0) (k : Q (some (.int (fUse g w r i))) w) : gM g d mX0_getInto [.ref (eB g + 1), .int (nI c), .ref (aRow g r), .int i] w Q := by
  refine gM.of (by decide) (Nat.le_of_ble_eq_true rfl) ?_
  have o1 : gOb g w (eB g + 1) 0 := hS.ob 1 rfl
  have o66 : gOb g w (eB g + 66) 2 := hS.ob 66 rfl
  have r2 : gR w 2 (eB g + 1) = some (eB g + 66) := hS.rf 2 1 66 (by decide)
  have o68 : gOb g w (eB g + 68) 4 := hS.ob 68 rfl
  have r3 : gR w 3 (eB g + 1) = some (eB g + 68) := hS.rf 3 1 68 (by decide)
  obtain ⟨o2, -⟩ := hS.row hr
  refine g_aload_n dX0_getInto_0 rfl ?_
  refine g_iload_n dX0_getInto_1 rfl ?_
  refine g_iconstV (v := 0) dX0_getInto_2 (by decide) ?_
  refine g_callV (d1 := d - 1) (As := [_, _]) 6 dX0_getInto_3 vX0_220 (by omega) (by assumption) rfl rfl (Nat.le_of_ble_eq_true rfl) ?_
  refine c_faultOfUse hS hr ?_
  refine g_istore dX0_getInto_6 (by decide) rfl ?_
  refine g_iload dX0_getInto_8 rfl ?_
  refine g_if_ne 29 dX0_getInto_10 (by decide) (fun _ => ?_) (fun q => absurd q (hf))
  refine g_iload dX0_getInto_29 rfl ?_
  refine g_iret dX0_getInto_31 rfl ?_
  exact k
set_option maxHeartbeats 4000000 in
set_option maxRecDepth 20000 in
theorem c_getInto {g : GE} {d : Nat} {w : GW} {Q : Option Value → GW → Prop} (hd : 4 ≤ d) {r c j : Nat} {i : Int32} (hS : SK g w) (hr : r < 18) (hc2 : c < 8) (hf : fUse g w r i = 0) (hj : j < 16) (hi : i = nI j) (hb : ¬ fBeyond (gD w (aRd g r) j)) (k : Q (some (.int 0)) (setD w (eB g + 67) c (gD w (aRd g r) j))) : gM g d mX0_getInto [.ref (eB g + 1), .int (nI c), .ref (aRow g r), .int i] w Q := by
  refine gM.of (by decide) (Nat.le_of_ble_eq_true rfl) ?_
  have o1 : gOb g w (eB g + 1) 0 := hS.ob 1 rfl
  have o66 : gOb g w (eB g + 66) 2 := hS.ob 66 rfl
  have r2 : gR w 2 (eB g + 1) = some (eB g + 66) := hS.rf 2 1 66 (by decide)
  have o68 : gOb g w (eB g + 68) 4 := hS.ob 68 rfl
  have r3 : gR w 3 (eB g + 1) = some (eB g + 68) := hS.rf 3 1 68 (by decide)
  obtain ⟨o2, -⟩ := hS.row hr
  have eg : cGot g w r i = gD w (aRd g r) j := by rw [cGot, if_pos hf, hi, nI_clamp (by omega)]
  refine g_aload_n dX0_getInto_0 rfl ?_
  refine g_iload_n dX0_getInto_1 rfl ?_
  refine g_iconstV (v := 0) dX0_getInto_2 (by decide) ?_
  refine g_callV (d1 := d - 1) (As := [_, _]) 6 dX0_getInto_3 vX0_220 (by omega) (by assumption) rfl rfl (Nat.le_of_ble_eq_true rfl) ?_
  refine c_faultOfUse hS hr ?_
  refine g_istore dX0_getInto_6 (by decide) rfl ?_
  refine g_iload dX0_getInto_8 rfl ?_
  refine g_if_ne 29 dX0_getInto_10 (by decide) (fun q => absurd (hf) q) (fun _ => ?_)
  refine g_aload_n dX0_getInto_13 rfl ?_
  refine g_getR 0 2 2 dX0_getInto_14 fX0_32 rfl rfl (by assumption) (by assumption) ?_
  refine g_iload_n dX0_getInto_17 rfl ?_
  refine g_aload_n dX0_getInto_18 rfl ?_
  refine g_iload_n dX0_getInto_19 rfl ?_
  refine g_callV (d1 := d - 1) (As := [_]) 6 dX0_getInto_20 vX0_224 (by omega) (by assumption) rfl rfl (Nat.le_of_ble_eq_true rfl) ?_
  refine c_got (by omega) hS hr ?_
  rw [eg]
  refine g_callV (d1 := d - 1) (As := [_, _]) 2 dX0_getInto_23 vX0_206 (by omega) (by assumption) rfl rfl (Nat.le_of_ble_eq_true rfl) ?_
  refine c_turn hS hc2 (fun q => absurd q hb) (fun _ => ?_)
  refine g_goto 31 dX0_getInto_26 (by decide) ?_
  refine g_iret dX0_getInto_31 rfl ?_
  exact k
theorem sDiv_1 {s : Int32} : ¬ sDivides s = 0 ↔ (s = 3 ∨ s = 4) := by
  unfold sDivides
  by_cases h : s = 3
  · simp [h]
  · by_cases h2 : s = 4 <;> simp [h, h2]
set_option maxHeartbeats 4000000 in
set_option maxRecDepth 20000 in
theorem c_doFineZ {g : GE} {d : Nat} {w : GW} {Q : Option Value → GW → Prop} (hd : 2 ≤ d) {q b c : Nat} (hS : SK g w) (hq : gOb g w q 7) (hb : gI w 450 q = nI b) (hb2 : b < 8) (hc : gI w 451 q = nI c) (hc2 : c < 8) (hd3 : gI w 449 q = 3 ∨ gI w 449 q = 4) (hz : FP.dcmp (gD w (eB g + 67) c) FP.dconst0 = some .eq) (k : Q (some (.int 7)) w) : gM g d mX0_doFine [.ref (eB g + 1), .ref q] w Q := by
  refine gM.of (by decide) (Nat.le_of_ble_eq_true rfl) ?_
  have o1 : gOb g w (eB g + 1) 0 := hS.ob 1 rfl
  have o66 : gOb g w (eB g + 66) 2 := hS.ob 66 rfl
  have r2 : gR w 2 (eB g + 1) = some (eB g + 66) := hS.rf 2 1 66 (by decide)
  have o68 : gOb g w (eB g + 68) 4 := hS.ob 68 rfl
  have r3 : gR w 3 (eB g + 1) = some (eB g + 68) := hS.rf 3 1 68 (by decide)
  refine g_aload_n dX0_doFine_0 rfl ?_
  refine g_getR 0 2 2 dX0_doFine_1 fX0_32 rfl rfl (by assumption) (by assumption) ?_
  refine g_aload_n dX0_doFine_4 rfl ?_
  refine g_getI 7 2 450 dX0_doFine_5 fX0_175 rfl rfl (by assumption) ?_
  refine g_callV (d1 := d - 1) (As := [_]) 2 dX0_doFine_8 vX0_168 (by omega) (by assumption) rfl rfl (Nat.le_of_ble_eq_true rfl) ?_
  refine c_at hS ?_
  rw [hb, cAt_in hb2]
  refine g_dstore_n dX0_doFine_11 (by decide) rfl ?_
  refine g_aload_n dX0_doFine_12 rfl ?_
  refine g_getR 0 2 2 dX0_doFine_13 fX0_32 rfl rfl (by assumption) (by assumption) ?_
  refine g_aload_n dX0_doFine_16 rfl ?_
  refine g_getI 7 3 451 dX0_doFine_17 fX0_172 rfl rfl (by assumption) ?_
  refine g_callV (d1 := d - 1) (As := [_]) 2 dX0_doFine_20 vX0_168 (by omega) (by assumption) rfl rfl (Nat.le_of_ble_eq_true rfl) ?_
  refine c_at hS ?_
  rw [hc, cAt_in hc2]
  refine g_dstore dX0_doFine_23 (by decide) rfl ?_
  refine g_aload_n dX0_doFine_25 rfl ?_
  refine g_getI 7 1 449 dX0_doFine_26 fX0_122 rfl rfl (by assumption) ?_
  refine g_callS (d1 := d - 1) (As := [_]) dX0_doFine_29 sX0_241 (by omega) rfl rfl (Nat.le_of_ble_eq_true rfl) ?_
  refine c_divides ?_
  refine g_if_eq 45 dX0_doFine_32 (by decide) (fun q => absurd q (sDiv_1.mpr hd3)) (fun _ => ?_)
  refine g_dload dX0_doFine_35 rfl ?_
  refine g_dconst0 dX0_doFine_37 ?_
  refine g_dcmp dX0_doFine_38 ?_
  refine g_if_ne 45 dX0_doFine_39 (by decide) (fun q => absurd ((cv_eql _).mpr hz) q) (fun _ => ?_)
  refine g_bipushV (v := 7) dX0_doFine_42 (by decide) ?_
  refine g_iret dX0_doFine_44 rfl ?_
  exact k
set_option maxHeartbeats 4000000 in
set_option maxRecDepth 20000 in
theorem c_doFineN {g : GE} {d : Nat} {w : GW} {Q : Option Value → GW → Prop} (hd : 4 ≤ d) {q b c : Nat} (hS : SK g w) (hq : gOb g w q 7) (hb : gI w 450 q = nI b) (hb2 : b < 8) (hc : gI w 451 q = nI c) (hc2 : c < 8) (hd3 : ¬ (gI w 449 q = 3 ∨ gI w 449 q = 4)) {v : UInt64} (hM : ∀ Q1 : Option Value → GW → Prop, Q1 (some (.double v)) w → gM g (d - 1) mX8_fine [.int (gI w 449 q), .double (gD w (eB g + 67) b), .double (gD w (eB g + 67) c)] w Q1) (k1 : fBeyond v → Q (some (.int 8)) w) (k2 : ¬ fBeyond v → Q (some (.int 0)) (setD w (eB g + 67) b v)) : gM g d mX0_doFine [.ref (eB g + 1), .ref q] w Q := by
  refine gM.of (by decide) (Nat.le_of_ble_eq_true rfl) ?_
  have o1 : gOb g w (eB g + 1) 0 := hS.ob 1 rfl
  have o66 : gOb g w (eB g + 66) 2 := hS.ob 66 rfl
  have r2 : gR w 2 (eB g + 1) = some (eB g + 66) := hS.rf 2 1 66 (by decide)
  have o68 : gOb g w (eB g + 68) 4 := hS.ob 68 rfl
  have r3 : gR w 3 (eB g + 1) = some (eB g + 68) := hS.rf 3 1 68 (by decide)
  refine g_aload_n dX0_doFine_0 rfl ?_
  refine g_getR 0 2 2 dX0_doFine_1 fX0_32 rfl rfl (by assumption) (by assumption) ?_
  refine g_aload_n dX0_doFine_4 rfl ?_
  refine g_getI 7 2 450 dX0_doFine_5 fX0_175 rfl rfl (by assumption) ?_
  refine g_callV (d1 := d - 1) (As := [_]) 2 dX0_doFine_8 vX0_168 (by omega) (by assumption) rfl rfl (Nat.le_of_ble_eq_true rfl) ?_
  refine c_at hS ?_
  rw [hb, cAt_in hb2]
  refine g_dstore_n dX0_doFine_11 (by decide) rfl ?_
  refine g_aload_n dX0_doFine_12 rfl ?_
  refine g_getR 0 2 2 dX0_doFine_13 fX0_32 rfl rfl (by assumption) (by assumption) ?_
  refine g_aload_n dX0_doFine_16 rfl ?_
  refine g_getI 7 3 451 dX0_doFine_17 fX0_172 rfl rfl (by assumption) ?_
  refine g_callV (d1 := d - 1) (As := [_]) 2 dX0_doFine_20 vX0_168 (by omega) (by assumption) rfl rfl (Nat.le_of_ble_eq_true rfl) ?_
  refine c_at hS ?_
  rw [hc, cAt_in hc2]
  refine g_dstore dX0_doFine_23 (by decide) rfl ?_
  refine g_aload_n dX0_doFine_25 rfl ?_
  refine g_getI 7 1 449 dX0_doFine_26 fX0_122 rfl rfl (by assumption) ?_
  refine g_callS (d1 := d - 1) (As := [_]) dX0_doFine_29 sX0_241 (by omega) rfl rfl (Nat.le_of_ble_eq_true rfl) ?_
  refine c_divides ?_
  refine g_if_eq 45 dX0_doFine_32 (by decide) (fun _ => ?_) (fun q => absurd (Classical.byContradiction fun z => hd3 (sDiv_1.mp z)) q)
  refine g_aload_n dX0_doFine_45 rfl ?_
  refine g_getR 0 2 2 dX0_doFine_46 fX0_32 rfl rfl (by assumption) (by assumption) ?_
  refine g_aload_n dX0_doFine_49 rfl ?_
  refine g_getI 7 2 450 dX0_doFine_50 fX0_175 rfl rfl hq ?_
  rw [hb]
  refine g_aload_n dX0_doFine_53 rfl ?_
  refine g_getI 7 1 449 dX0_doFine_54 fX0_122 rfl rfl (by assumption) ?_
  refine g_dload_n dX0_doFine_57 rfl ?_
  refine g_dload dX0_doFine_58 rfl ?_
  refine g_callS (d1 := d - 1) (As := [_, _, _]) dX0_doFine_60 sX0_247 (by omega) rfl rfl (Nat.le_of_ble_eq_true rfl) ?_
  refine hM _ ?_
  refine g_callV (d1 := d - 1) (As := [_, _]) 2 dX0_doFine_63 vX0_206 (by omega) o66 rfl rfl (Nat.le_of_ble_eq_true rfl) ?_
  refine c_turn hS hb2 (fun z => ?_) (fun z => ?_)
  · refine g_iret dX0_doFine_66 rfl ?_
    exact k1 z
  · refine g_iret dX0_doFine_66 rfl ?_
    exact k2 z
set_option maxHeartbeats 4000000 in
set_option maxRecDepth 20000 in
theorem c_doFineD {g : GE} {d : Nat} {w : GW} {Q : Option Value → GW → Prop} (hd : 4 ≤ d) {q b c : Nat} (hS : SK g w) (hq : gOb g w q 7) (hb : gI w 450 q = nI b) (hb2 : b < 8) (hc : gI w 451 q = nI c) (hc2 : c < 8) (hd3 : gI w 449 q = 3 ∨ gI w 449 q = 4) (hz : ¬ FP.dcmp (gD w (eB g + 67) c) FP.dconst0 = some .eq) {v : UInt64} (hM : ∀ Q1 : Option Value → GW → Prop, Q1 (some (.double v)) w → gM g (d - 1) mX8_fine [.int (gI w 449 q), .double (gD w (eB g + 67) b), .double (gD w (eB g + 67) c)] w Q1) (k1 : fBeyond v → Q (some (.int 8)) w) (k2 : ¬ fBeyond v → Q (some (.int 0)) (setD w (eB g + 67) b v)) : gM g d mX0_doFine [.ref (eB g + 1), .ref q] w Q := by
  refine gM.of (by decide) (Nat.le_of_ble_eq_true rfl) ?_
  have o1 : gOb g w (eB g + 1) 0 := hS.ob 1 rfl
  have o66 : gOb g w (eB g + 66) 2 := hS.ob 66 rfl
  have r2 : gR w 2 (eB g + 1) = some (eB g + 66) := hS.rf 2 1 66 (by decide)
  have o68 : gOb g w (eB g + 68) 4 := hS.ob 68 rfl
  have r3 : gR w 3 (eB g + 1) = some (eB g + 68) := hS.rf 3 1 68 (by decide)
  refine g_aload_n dX0_doFine_0 rfl ?_
  refine g_getR 0 2 2 dX0_doFine_1 fX0_32 rfl rfl (by assumption) (by assumption) ?_
  refine g_aload_n dX0_doFine_4 rfl ?_
  refine g_getI 7 2 450 dX0_doFine_5 fX0_175 rfl rfl (by assumption) ?_
  refine g_callV (d1 := d - 1) (As := [_]) 2 dX0_doFine_8 vX0_168 (by omega) (by assumption) rfl rfl (Nat.le_of_ble_eq_true rfl) ?_
  refine c_at hS ?_
  rw [hb, cAt_in hb2]
  refine g_dstore_n dX0_doFine_11 (by decide) rfl ?_
  refine g_aload_n dX0_doFine_12 rfl ?_
  refine g_getR 0 2 2 dX0_doFine_13 fX0_32 rfl rfl (by assumption) (by assumption) ?_
  refine g_aload_n dX0_doFine_16 rfl ?_
  refine g_getI 7 3 451 dX0_doFine_17 fX0_172 rfl rfl (by assumption) ?_
  refine g_callV (d1 := d - 1) (As := [_]) 2 dX0_doFine_20 vX0_168 (by omega) (by assumption) rfl rfl (Nat.le_of_ble_eq_true rfl) ?_
  refine c_at hS ?_
  rw [hc, cAt_in hc2]
  refine g_dstore dX0_doFine_23 (by decide) rfl ?_
  refine g_aload_n dX0_doFine_25 rfl ?_
  refine g_getI 7 1 449 dX0_doFine_26 fX0_122 rfl rfl (by assumption) ?_
  refine g_callS (d1 := d - 1) (As := [_]) dX0_doFine_29 sX0_241 (by omega) rfl rfl (Nat.le_of_ble_eq_true rfl) ?_
  refine c_divides ?_
  refine g_if_eq 45 dX0_doFine_32 (by decide) (fun q => absurd q (sDiv_1.mpr hd3)) (fun _ => ?_)
  refine g_dload dX0_doFine_35 rfl ?_
  refine g_dconst0 dX0_doFine_37 ?_
  refine g_dcmp dX0_doFine_38 ?_
  refine g_if_ne 45 dX0_doFine_39 (by decide) (fun _ => ?_) (fun q => absurd q (fun z => hz ((cv_eql _).mp z)))
  refine g_aload_n dX0_doFine_45 rfl ?_
  refine g_getR 0 2 2 dX0_doFine_46 fX0_32 rfl rfl (by assumption) (by assumption) ?_
  refine g_aload_n dX0_doFine_49 rfl ?_
  refine g_getI 7 2 450 dX0_doFine_50 fX0_175 rfl rfl hq ?_
  rw [hb]
  refine g_aload_n dX0_doFine_53 rfl ?_
  refine g_getI 7 1 449 dX0_doFine_54 fX0_122 rfl rfl (by assumption) ?_
  refine g_dload_n dX0_doFine_57 rfl ?_
  refine g_dload dX0_doFine_58 rfl ?_
  refine g_callS (d1 := d - 1) (As := [_, _, _]) dX0_doFine_60 sX0_247 (by omega) rfl rfl (Nat.le_of_ble_eq_true rfl) ?_
  refine hM _ ?_
  refine g_callV (d1 := d - 1) (As := [_, _]) 2 dX0_doFine_63 vX0_206 (by omega) o66 rfl rfl (Nat.le_of_ble_eq_true rfl) ?_
  refine c_turn hS hb2 (fun z => ?_) (fun z => ?_)
  · refine g_iret dX0_doFine_66 rfl ?_
    exact k1 z
  · refine g_iret dX0_doFine_66 rfl ?_
    exact k2 z
/-- what Sums answers doRough: a float for the sums that round, else FINE's sum of the floats' doubles -/
def RSum (g : GE) (d : Nat) (w : GW) (s : Int32) (x y : UInt32) (v : UInt64) : Prop := (s ≤ 3 → ∃ u : UInt32, v = FP.f2d u ∧ vf_n64 (FP.f2d u) ∧ ∀ Q1 : Option Value → GW → Prop, Q1 (some (.float u)) w → gM g d mX8_rough [.int s, .float x, .float y] w Q1) ∧ (¬ s ≤ 3 → vf_n64 (FP.f2d x) ∧ vf_n64 (FP.f2d y) ∧ ∀ Q1 : Option Value → GW → Prop, Q1 (some (.double v)) w → gM g d mX8_fine [.int s, .double (FP.f2d x), .double (FP.f2d y)] w Q1)
set_option maxHeartbeats 4000000 in
set_option maxRecDepth 20000 in
theorem c_doRoughZ {g : GE} {d : Nat} {w : GW} {Q : Option Value → GW → Prop} (hd : 2 ≤ d) {q b c : Nat} (hS : SK g w) (hq : gOb g w q 7) (hb : gI w 450 q = nI b) (hb2 : b < 8) (hc : gI w 451 q = nI c) (hc2 : c < 8) (hx : DF (gD w (eB g + 67) b)) (hy : DF (gD w (eB g + 67) c)) (hd3 : gI w 449 q = 3 ∨ gI w 449 q = 4) (hz : FP.fcmp (FP.d2f (gD w (eB g + 67) c)) FP.fconst0 = some .eq) (k : Q (some (.int 7)) w) : gM g d mX0_doRough [.ref (eB g + 1), .ref q] w Q := by
  refine gM.of (by decide) (Nat.le_of_ble_eq_true rfl) ?_
  have o1 : gOb g w (eB g + 1) 0 := hS.ob 1 rfl
  have o66 : gOb g w (eB g + 66) 2 := hS.ob 66 rfl
  have r2 : gR w 2 (eB g + 1) = some (eB g + 66) := hS.rf 2 1 66 (by decide)
  have o68 : gOb g w (eB g + 68) 4 := hS.ob 68 rfl
  have r3 : gR w 3 (eB g + 1) = some (eB g + 68) := hS.rf 3 1 68 (by decide)
  refine g_aload_n dX0_doRough_0 rfl ?_
  refine g_getR 0 2 2 dX0_doRough_1 fX0_32 rfl rfl (by assumption) (by assumption) ?_
  refine g_aload_n dX0_doRough_4 rfl ?_
  refine g_getI 7 2 450 dX0_doRough_5 fX0_175 rfl rfl (by assumption) ?_
  refine g_callV (d1 := d - 1) (As := [_]) 2 dX0_doRough_8 vX0_168 (by omega) (by assumption) rfl rfl (Nat.le_of_ble_eq_true rfl) ?_
  refine c_at hS ?_
  rw [hb, cAt_in hb2]
  refine g_d2f dX0_doRough_11 (n32 (nn_d2f hx)) ?_
  refine g_fstore_n dX0_doRough_12 (by decide) rfl ?_
  refine g_aload_n dX0_doRough_13 rfl ?_
  refine g_getR 0 2 2 dX0_doRough_14 fX0_32 rfl rfl (by assumption) (by assumption) ?_
  refine g_aload_n dX0_doRough_17 rfl ?_
  refine g_getI 7 3 451 dX0_doRough_18 fX0_172 rfl rfl (by assumption) ?_
  refine g_callV (d1 := d - 1) (As := [_]) 2 dX0_doRough_21 vX0_168 (by omega) (by assumption) rfl rfl (Nat.le_of_ble_eq_true rfl) ?_
  refine c_at hS ?_
  rw [hc, cAt_in hc2]
  refine g_d2f dX0_doRough_24 (n32 (nn_d2f hy)) ?_
  refine g_fstore_n dX0_doRough_25 (by decide) rfl ?_
  refine g_aload_n dX0_doRough_26 rfl ?_
  refine g_getI 7 1 449 dX0_doRough_27 fX0_122 rfl rfl (by assumption) ?_
  refine g_callS (d1 := d - 1) (As := [_]) dX0_doRough_30 sX0_241 (by omega) rfl rfl (Nat.le_of_ble_eq_true rfl) ?_
  refine c_divides ?_
  refine g_if_eq 45 dX0_doRough_33 (by decide) (fun q => absurd q (sDiv_1.mpr hd3)) (fun _ => ?_)
  refine g_fload_n dX0_doRough_36 rfl ?_
  refine g_fconst0 dX0_doRough_37 ?_
  refine g_fcmp dX0_doRough_38 ?_
  refine g_if_ne 45 dX0_doRough_39 (by decide) (fun q => absurd ((cv_eql _).mpr hz) q) (fun _ => ?_)
  refine g_bipushV (v := 7) dX0_doRough_42 (by decide) ?_
  refine g_iret dX0_doRough_44 rfl ?_
  exact k
set_option maxHeartbeats 4000000 in
set_option maxRecDepth 20000 in
theorem c_doRoughN {g : GE} {d : Nat} {w : GW} {Q : Option Value → GW → Prop} (hd : 4 ≤ d) {q b c : Nat} (hS : SK g w) (hq : gOb g w q 7) (hb : gI w 450 q = nI b) (hb2 : b < 8) (hc : gI w 451 q = nI c) (hc2 : c < 8) (hx : DF (gD w (eB g + 67) b)) (hy : DF (gD w (eB g + 67) c)) (hd3 : ¬ (gI w 449 q = 3 ∨ gI w 449 q = 4)) {v : UInt64} (hM : RSum g (d - 1) w (gI w 449 q) (FP.d2f (gD w (eB g + 67) b)) (FP.d2f (gD w (eB g + 67) c)) v) (k1 : fBeyond v → Q (some (.int 8)) w) (k2 : ¬ fBeyond v → Q (some (.int 0)) (setD w (eB g + 67) b v)) : gM g d mX0_doRough [.ref (eB g + 1), .ref q] w Q := by
  refine gM.of (by decide) (Nat.le_of_ble_eq_true rfl) ?_
  have o1 : gOb g w (eB g + 1) 0 := hS.ob 1 rfl
  have o66 : gOb g w (eB g + 66) 2 := hS.ob 66 rfl
  have r2 : gR w 2 (eB g + 1) = some (eB g + 66) := hS.rf 2 1 66 (by decide)
  have o68 : gOb g w (eB g + 68) 4 := hS.ob 68 rfl
  have r3 : gR w 3 (eB g + 1) = some (eB g + 68) := hS.rf 3 1 68 (by decide)
  refine g_aload_n dX0_doRough_0 rfl ?_
  refine g_getR 0 2 2 dX0_doRough_1 fX0_32 rfl rfl (by assumption) (by assumption) ?_
  refine g_aload_n dX0_doRough_4 rfl ?_
  refine g_getI 7 2 450 dX0_doRough_5 fX0_175 rfl rfl (by assumption) ?_
  refine g_callV (d1 := d - 1) (As := [_]) 2 dX0_doRough_8 vX0_168 (by omega) (by assumption) rfl rfl (Nat.le_of_ble_eq_true rfl) ?_
  refine c_at hS ?_
  rw [hb, cAt_in hb2]
  refine g_d2f dX0_doRough_11 (n32 (nn_d2f hx)) ?_
  refine g_fstore_n dX0_doRough_12 (by decide) rfl ?_
  refine g_aload_n dX0_doRough_13 rfl ?_
  refine g_getR 0 2 2 dX0_doRough_14 fX0_32 rfl rfl (by assumption) (by assumption) ?_
  refine g_aload_n dX0_doRough_17 rfl ?_
  refine g_getI 7 3 451 dX0_doRough_18 fX0_172 rfl rfl (by assumption) ?_
  refine g_callV (d1 := d - 1) (As := [_]) 2 dX0_doRough_21 vX0_168 (by omega) (by assumption) rfl rfl (Nat.le_of_ble_eq_true rfl) ?_
  refine c_at hS ?_
  rw [hc, cAt_in hc2]
  refine g_d2f dX0_doRough_24 (n32 (nn_d2f hy)) ?_
  refine g_fstore_n dX0_doRough_25 (by decide) rfl ?_
  refine g_aload_n dX0_doRough_26 rfl ?_
  refine g_getI 7 1 449 dX0_doRough_27 fX0_122 rfl rfl (by assumption) ?_
  refine g_callS (d1 := d - 1) (As := [_]) dX0_doRough_30 sX0_241 (by omega) rfl rfl (Nat.le_of_ble_eq_true rfl) ?_
  refine c_divides ?_
  refine g_if_eq 45 dX0_doRough_33 (by decide) (fun _ => ?_) (fun q => absurd (Classical.byContradiction fun z => hd3 (sDiv_1.mp z)) q)
  refine g_aload_n dX0_doRough_45 rfl ?_
  refine g_getR 0 2 2 dX0_doRough_46 fX0_32 rfl rfl (by assumption) (by assumption) ?_
  refine g_aload_n dX0_doRough_49 rfl ?_
  refine g_getI 7 2 450 dX0_doRough_50 fX0_175 rfl rfl hq ?_
  rw [hb]
  refine g_aload_n dX0_doRough_53 rfl ?_
  refine g_getI 7 1 449 dX0_doRough_54 fX0_122 rfl rfl (by assumption) ?_
  refine g_callS (d1 := d - 1) (As := [_]) dX0_doRough_57 sX0_251 (by omega) rfl rfl (Nat.le_of_ble_eq_true rfl) ?_
  refine c_roundsFloats ?_
  refine g_if_eq 76 dX0_doRough_60 (by decide) (fun c1 => ?_) (fun c1 => ?_)
  · refine g_aload_n dX0_doRough_76 rfl ?_
    refine g_getI 7 1 449 dX0_doRough_77 fX0_122 rfl rfl (by assumption) ?_
    refine g_fload_n dX0_doRough_80 rfl ?_
    obtain ⟨h81, h83, hM2⟩ := hM.2 (sRF_0 c1)
    refine g_f2d dX0_doRough_81 h81 ?_
    refine g_fload_n dX0_doRough_82 rfl ?_
    refine g_f2d dX0_doRough_83 h83 ?_
    refine g_callS (d1 := d - 1) (As := [_, _, _]) dX0_doRough_84 sX0_247 (by omega) rfl rfl (Nat.le_of_ble_eq_true rfl) ?_
    refine hM2 _ ?_
    refine g_callV (d1 := d - 1) (As := [_, _]) 2 dX0_doRough_87 vX0_206 (by omega) o66 rfl rfl (Nat.le_of_ble_eq_true rfl) ?_
    refine c_turn hS hb2 (fun z => ?_) (fun z => ?_)
    · refine g_iret dX0_doRough_90 rfl ?_
      exact k1 z
    · refine g_iret dX0_doRough_90 rfl ?_
      exact k2 z
  · refine g_aload_n dX0_doRough_63 rfl ?_
    refine g_getI 7 1 449 dX0_doRough_64 fX0_122 rfl rfl (by assumption) ?_
    refine g_fload_n dX0_doRough_67 rfl ?_
    refine g_fload_n dX0_doRough_68 rfl ?_
    refine g_callS (d1 := d - 1) (As := [_, _, _]) dX0_doRough_69 sX0_254 (by omega) rfl rfl (Nat.le_of_ble_eq_true rfl) ?_
    obtain ⟨u, rfl, hu, hM1⟩ := hM.1 (sRF_1 c1)
    refine hM1 _ ?_
    refine g_f2d dX0_doRough_72 hu ?_
    refine g_goto 87 dX0_doRough_73 (by decide) ?_
    refine g_callV (d1 := d - 1) (As := [_, _]) 2 dX0_doRough_87 vX0_206 (by omega) o66 rfl rfl (Nat.le_of_ble_eq_true rfl) ?_
    refine c_turn hS hb2 (fun z => ?_) (fun z => ?_)
    · refine g_iret dX0_doRough_90 rfl ?_
      exact k1 z
    · refine g_iret dX0_doRough_90 rfl ?_
      exact k2 z
set_option maxHeartbeats 4000000 in
set_option maxRecDepth 20000 in
theorem c_doRoughD {g : GE} {d : Nat} {w : GW} {Q : Option Value → GW → Prop} (hd : 4 ≤ d) {q b c : Nat} (hS : SK g w) (hq : gOb g w q 7) (hb : gI w 450 q = nI b) (hb2 : b < 8) (hc : gI w 451 q = nI c) (hc2 : c < 8) (hx : DF (gD w (eB g + 67) b)) (hy : DF (gD w (eB g + 67) c)) (hd3 : gI w 449 q = 3 ∨ gI w 449 q = 4) (hz : ¬ FP.fcmp (FP.d2f (gD w (eB g + 67) c)) FP.fconst0 = some .eq) {v : UInt64} (hM : RSum g (d - 1) w (gI w 449 q) (FP.d2f (gD w (eB g + 67) b)) (FP.d2f (gD w (eB g + 67) c)) v) (k1 : fBeyond v → Q (some (.int 8)) w) (k2 : ¬ fBeyond v → Q (some (.int 0)) (setD w (eB g + 67) b v)) : gM g d mX0_doRough [.ref (eB g + 1), .ref q] w Q := by
  refine gM.of (by decide) (Nat.le_of_ble_eq_true rfl) ?_
  have o1 : gOb g w (eB g + 1) 0 := hS.ob 1 rfl
  have o66 : gOb g w (eB g + 66) 2 := hS.ob 66 rfl
  have r2 : gR w 2 (eB g + 1) = some (eB g + 66) := hS.rf 2 1 66 (by decide)
  have o68 : gOb g w (eB g + 68) 4 := hS.ob 68 rfl
  have r3 : gR w 3 (eB g + 1) = some (eB g + 68) := hS.rf 3 1 68 (by decide)
  refine g_aload_n dX0_doRough_0 rfl ?_
  refine g_getR 0 2 2 dX0_doRough_1 fX0_32 rfl rfl (by assumption) (by assumption) ?_
  refine g_aload_n dX0_doRough_4 rfl ?_
  refine g_getI 7 2 450 dX0_doRough_5 fX0_175 rfl rfl (by assumption) ?_
  refine g_callV (d1 := d - 1) (As := [_]) 2 dX0_doRough_8 vX0_168 (by omega) (by assumption) rfl rfl (Nat.le_of_ble_eq_true rfl) ?_
  refine c_at hS ?_
  rw [hb, cAt_in hb2]
  refine g_d2f dX0_doRough_11 (n32 (nn_d2f hx)) ?_
  refine g_fstore_n dX0_doRough_12 (by decide) rfl ?_
  refine g_aload_n dX0_doRough_13 rfl ?_
  refine g_getR 0 2 2 dX0_doRough_14 fX0_32 rfl rfl (by assumption) (by assumption) ?_
  refine g_aload_n dX0_doRough_17 rfl ?_
  refine g_getI 7 3 451 dX0_doRough_18 fX0_172 rfl rfl (by assumption) ?_
  refine g_callV (d1 := d - 1) (As := [_]) 2 dX0_doRough_21 vX0_168 (by omega) (by assumption) rfl rfl (Nat.le_of_ble_eq_true rfl) ?_
  refine c_at hS ?_
  rw [hc, cAt_in hc2]
  refine g_d2f dX0_doRough_24 (n32 (nn_d2f hy)) ?_
  refine g_fstore_n dX0_doRough_25 (by decide) rfl ?_
  refine g_aload_n dX0_doRough_26 rfl ?_
  refine g_getI 7 1 449 dX0_doRough_27 fX0_122 rfl rfl (by assumption) ?_
  refine g_callS (d1 := d - 1) (As := [_]) dX0_doRough_30 sX0_241 (by omega) rfl rfl (Nat.le_of_ble_eq_true rfl) ?_
  refine c_divides ?_
  refine g_if_eq 45 dX0_doRough_33 (by decide) (fun q => absurd q (sDiv_1.mpr hd3)) (fun _ => ?_)
  refine g_fload_n dX0_doRough_36 rfl ?_
  refine g_fconst0 dX0_doRough_37 ?_
  refine g_fcmp dX0_doRough_38 ?_
  refine g_if_ne 45 dX0_doRough_39 (by decide) (fun _ => ?_) (fun q => absurd q (fun z => hz ((cv_eql _).mp z)))
  refine g_aload_n dX0_doRough_45 rfl ?_
  refine g_getR 0 2 2 dX0_doRough_46 fX0_32 rfl rfl (by assumption) (by assumption) ?_
  refine g_aload_n dX0_doRough_49 rfl ?_
  refine g_getI 7 2 450 dX0_doRough_50 fX0_175 rfl rfl hq ?_
  rw [hb]
  refine g_aload_n dX0_doRough_53 rfl ?_
  refine g_getI 7 1 449 dX0_doRough_54 fX0_122 rfl rfl (by assumption) ?_
  refine g_callS (d1 := d - 1) (As := [_]) dX0_doRough_57 sX0_251 (by omega) rfl rfl (Nat.le_of_ble_eq_true rfl) ?_
  refine c_roundsFloats ?_
  refine g_if_eq 76 dX0_doRough_60 (by decide) (fun c1 => ?_) (fun c1 => ?_)
  · refine g_aload_n dX0_doRough_76 rfl ?_
    refine g_getI 7 1 449 dX0_doRough_77 fX0_122 rfl rfl (by assumption) ?_
    refine g_fload_n dX0_doRough_80 rfl ?_
    obtain ⟨h81, h83, hM2⟩ := hM.2 (sRF_0 c1)
    refine g_f2d dX0_doRough_81 h81 ?_
    refine g_fload_n dX0_doRough_82 rfl ?_
    refine g_f2d dX0_doRough_83 h83 ?_
    refine g_callS (d1 := d - 1) (As := [_, _, _]) dX0_doRough_84 sX0_247 (by omega) rfl rfl (Nat.le_of_ble_eq_true rfl) ?_
    refine hM2 _ ?_
    refine g_callV (d1 := d - 1) (As := [_, _]) 2 dX0_doRough_87 vX0_206 (by omega) o66 rfl rfl (Nat.le_of_ble_eq_true rfl) ?_
    refine c_turn hS hb2 (fun z => ?_) (fun z => ?_)
    · refine g_iret dX0_doRough_90 rfl ?_
      exact k1 z
    · refine g_iret dX0_doRough_90 rfl ?_
      exact k2 z
  · refine g_aload_n dX0_doRough_63 rfl ?_
    refine g_getI 7 1 449 dX0_doRough_64 fX0_122 rfl rfl (by assumption) ?_
    refine g_fload_n dX0_doRough_67 rfl ?_
    refine g_fload_n dX0_doRough_68 rfl ?_
    refine g_callS (d1 := d - 1) (As := [_, _, _]) dX0_doRough_69 sX0_254 (by omega) rfl rfl (Nat.le_of_ble_eq_true rfl) ?_
    obtain ⟨u, rfl, hu, hM1⟩ := hM.1 (sRF_1 c1)
    refine hM1 _ ?_
    refine g_f2d dX0_doRough_72 hu ?_
    refine g_goto 87 dX0_doRough_73 (by decide) ?_
    refine g_callV (d1 := d - 1) (As := [_, _]) 2 dX0_doRough_87 vX0_206 (by omega) o66 rfl rfl (Nat.le_of_ble_eq_true rfl) ?_
    refine c_turn hS hb2 (fun z => ?_) (fun z => ?_)
    · refine g_iret dX0_doRough_90 rfl ?_
      exact k1 z
    · refine g_iret dX0_doRough_90 rfl ?_
      exact k2 z
set_option maxHeartbeats 4000000 in
set_option maxRecDepth 20000 in
theorem c_doWholeZ {g : GE} {d : Nat} {w : GW} {Q : Option Value → GW → Prop} (hd : 2 ≤ d) {q b c : Nat} (hS : SK g w) (hq : gOb g w q 7) (hb : gI w 450 q = nI b) (hb2 : b < 8) (hc : gI w 451 q = nI c) (hc2 : c < 8) (hd3 : gI w 449 q = 3 ∨ gI w 449 q = 4) (hz : FP.d2i (gD w (eB g + 67) c) = 0) (k : Q (some (.int 7)) w) : gM g d mX0_doWhole [.ref (eB g + 1), .ref q] w Q := by
  refine gM.of (by decide) (Nat.le_of_ble_eq_true rfl) ?_
  have o1 : gOb g w (eB g + 1) 0 := hS.ob 1 rfl
  have o66 : gOb g w (eB g + 66) 2 := hS.ob 66 rfl
  have r2 : gR w 2 (eB g + 1) = some (eB g + 66) := hS.rf 2 1 66 (by decide)
  have o68 : gOb g w (eB g + 68) 4 := hS.ob 68 rfl
  have r3 : gR w 3 (eB g + 1) = some (eB g + 68) := hS.rf 3 1 68 (by decide)
  refine g_aload_n dX0_doWhole_0 rfl ?_
  refine g_getR 0 2 2 dX0_doWhole_1 fX0_32 rfl rfl (by assumption) (by assumption) ?_
  refine g_aload_n dX0_doWhole_4 rfl ?_
  refine g_getI 7 2 450 dX0_doWhole_5 fX0_175 rfl rfl (by assumption) ?_
  refine g_callV (d1 := d - 1) (As := [_]) 2 dX0_doWhole_8 vX0_193 (by omega) (by assumption) rfl rfl (Nat.le_of_ble_eq_true rfl) ?_
  refine c_wholeAt (by omega) hS ?_
  rw [hb, cAt_in hb2]
  refine g_istore_n dX0_doWhole_11 (by decide) rfl ?_
  refine g_aload_n dX0_doWhole_12 rfl ?_
  refine g_getR 0 2 2 dX0_doWhole_13 fX0_32 rfl rfl (by assumption) (by assumption) ?_
  refine g_aload_n dX0_doWhole_16 rfl ?_
  refine g_getI 7 3 451 dX0_doWhole_17 fX0_172 rfl rfl (by assumption) ?_
  refine g_callV (d1 := d - 1) (As := [_]) 2 dX0_doWhole_20 vX0_193 (by omega) (by assumption) rfl rfl (Nat.le_of_ble_eq_true rfl) ?_
  refine c_wholeAt (by omega) hS ?_
  rw [hc, cAt_in hc2]
  refine g_istore_n dX0_doWhole_23 (by decide) rfl ?_
  refine g_aload_n dX0_doWhole_24 rfl ?_
  refine g_getI 7 1 449 dX0_doWhole_25 fX0_122 rfl rfl (by assumption) ?_
  refine g_callS (d1 := d - 1) (As := [_]) dX0_doWhole_28 sX0_241 (by omega) rfl rfl (Nat.le_of_ble_eq_true rfl) ?_
  refine c_divides ?_
  refine g_if_eq 41 dX0_doWhole_31 (by decide) (fun q => absurd q (sDiv_1.mpr hd3)) (fun _ => ?_)
  refine g_iload_n dX0_doWhole_34 rfl ?_
  refine g_if_ne 41 dX0_doWhole_35 (by decide) (fun q => absurd (hz) q) (fun _ => ?_)
  refine g_bipushV (v := 7) dX0_doWhole_38 (by decide) ?_
  refine g_iret dX0_doWhole_40 rfl ?_
  exact k
set_option maxHeartbeats 4000000 in
set_option maxRecDepth 20000 in
theorem c_doWholeN {g : GE} {d : Nat} {w : GW} {Q : Option Value → GW → Prop} (hd : 4 ≤ d) {q b c : Nat} (hS : SK g w) (hq : gOb g w q 7) (hb : gI w 450 q = nI b) (hb2 : b < 8) (hc : gI w 451 q = nI c) (hc2 : c < 8) (hd3 : ¬ (gI w 449 q = 3 ∨ gI w 449 q = 4)) {v : Int32} (hM : ∀ Q1 : Option Value → GW → Prop, Q1 (some (.int v)) w → gM g (d - 1) mX8_whole [.int (gI w 449 q), .int (FP.d2i (gD w (eB g + 67) b)), .int (FP.d2i (gD w (eB g + 67) c))] w Q1) (k1 : fBeyond (FP.i2d v) → Q (some (.int 8)) w) (k2 : ¬ fBeyond (FP.i2d v) → Q (some (.int 0)) (setD w (eB g + 67) b (FP.i2d v))) : gM g d mX0_doWhole [.ref (eB g + 1), .ref q] w Q := by
  refine gM.of (by decide) (Nat.le_of_ble_eq_true rfl) ?_
  have o1 : gOb g w (eB g + 1) 0 := hS.ob 1 rfl
  have o66 : gOb g w (eB g + 66) 2 := hS.ob 66 rfl
  have r2 : gR w 2 (eB g + 1) = some (eB g + 66) := hS.rf 2 1 66 (by decide)
  have o68 : gOb g w (eB g + 68) 4 := hS.ob 68 rfl
  have r3 : gR w 3 (eB g + 1) = some (eB g + 68) := hS.rf 3 1 68 (by decide)
  refine g_aload_n dX0_doWhole_0 rfl ?_
  refine g_getR 0 2 2 dX0_doWhole_1 fX0_32 rfl rfl (by assumption) (by assumption) ?_
  refine g_aload_n dX0_doWhole_4 rfl ?_
  refine g_getI 7 2 450 dX0_doWhole_5 fX0_175 rfl rfl (by assumption) ?_
  refine g_callV (d1 := d - 1) (As := [_]) 2 dX0_doWhole_8 vX0_193 (by omega) (by assumption) rfl rfl (Nat.le_of_ble_eq_true rfl) ?_
  refine c_wholeAt (by omega) hS ?_
  rw [hb, cAt_in hb2]
  refine g_istore_n dX0_doWhole_11 (by decide) rfl ?_
  refine g_aload_n dX0_doWhole_12 rfl ?_
  refine g_getR 0 2 2 dX0_doWhole_13 fX0_32 rfl rfl (by assumption) (by assumption) ?_
  refine g_aload_n dX0_doWhole_16 rfl ?_
  refine g_getI 7 3 451 dX0_doWhole_17 fX0_172 rfl rfl (by assumption) ?_
  refine g_callV (d1 := d - 1) (As := [_]) 2 dX0_doWhole_20 vX0_193 (by omega) (by assumption) rfl rfl (Nat.le_of_ble_eq_true rfl) ?_
  refine c_wholeAt (by omega) hS ?_
  rw [hc, cAt_in hc2]
  refine g_istore_n dX0_doWhole_23 (by decide) rfl ?_
  refine g_aload_n dX0_doWhole_24 rfl ?_
  refine g_getI 7 1 449 dX0_doWhole_25 fX0_122 rfl rfl (by assumption) ?_
  refine g_callS (d1 := d - 1) (As := [_]) dX0_doWhole_28 sX0_241 (by omega) rfl rfl (Nat.le_of_ble_eq_true rfl) ?_
  refine c_divides ?_
  refine g_if_eq 41 dX0_doWhole_31 (by decide) (fun _ => ?_) (fun q => absurd (Classical.byContradiction fun z => hd3 (sDiv_1.mp z)) q)
  refine g_aload_n dX0_doWhole_41 rfl ?_
  refine g_getR 0 2 2 dX0_doWhole_42 fX0_32 rfl rfl (by assumption) (by assumption) ?_
  refine g_aload_n dX0_doWhole_45 rfl ?_
  refine g_getI 7 2 450 dX0_doWhole_46 fX0_175 rfl rfl hq ?_
  rw [hb]
  refine g_aload_n dX0_doWhole_49 rfl ?_
  refine g_getI 7 1 449 dX0_doWhole_50 fX0_122 rfl rfl (by assumption) ?_
  refine g_iload_n dX0_doWhole_53 rfl ?_
  refine g_iload_n dX0_doWhole_54 rfl ?_
  refine g_callS (d1 := d - 1) (As := [_, _, _]) dX0_doWhole_55 sX0_258 (by omega) rfl rfl (Nat.le_of_ble_eq_true rfl) ?_
  refine hM _ ?_
  refine g_i2d dX0_doWhole_58 ?_
  refine g_callV (d1 := d - 1) (As := [_, _]) 2 dX0_doWhole_59 vX0_206 (by omega) o66 rfl rfl (Nat.le_of_ble_eq_true rfl) ?_
  refine c_turn hS hb2 (fun z => ?_) (fun z => ?_)
  · refine g_iret dX0_doWhole_62 rfl ?_
    exact k1 z
  · refine g_iret dX0_doWhole_62 rfl ?_
    exact k2 z
set_option maxHeartbeats 4000000 in
set_option maxRecDepth 20000 in
theorem c_doWholeD {g : GE} {d : Nat} {w : GW} {Q : Option Value → GW → Prop} (hd : 4 ≤ d) {q b c : Nat} (hS : SK g w) (hq : gOb g w q 7) (hb : gI w 450 q = nI b) (hb2 : b < 8) (hc : gI w 451 q = nI c) (hc2 : c < 8) (hd3 : gI w 449 q = 3 ∨ gI w 449 q = 4) (hz : ¬ FP.d2i (gD w (eB g + 67) c) = 0) {v : Int32} (hM : ∀ Q1 : Option Value → GW → Prop, Q1 (some (.int v)) w → gM g (d - 1) mX8_whole [.int (gI w 449 q), .int (FP.d2i (gD w (eB g + 67) b)), .int (FP.d2i (gD w (eB g + 67) c))] w Q1) (k1 : fBeyond (FP.i2d v) → Q (some (.int 8)) w) (k2 : ¬ fBeyond (FP.i2d v) → Q (some (.int 0)) (setD w (eB g + 67) b (FP.i2d v))) : gM g d mX0_doWhole [.ref (eB g + 1), .ref q] w Q := by
  refine gM.of (by decide) (Nat.le_of_ble_eq_true rfl) ?_
  have o1 : gOb g w (eB g + 1) 0 := hS.ob 1 rfl
  have o66 : gOb g w (eB g + 66) 2 := hS.ob 66 rfl
  have r2 : gR w 2 (eB g + 1) = some (eB g + 66) := hS.rf 2 1 66 (by decide)
  have o68 : gOb g w (eB g + 68) 4 := hS.ob 68 rfl
  have r3 : gR w 3 (eB g + 1) = some (eB g + 68) := hS.rf 3 1 68 (by decide)
  refine g_aload_n dX0_doWhole_0 rfl ?_
  refine g_getR 0 2 2 dX0_doWhole_1 fX0_32 rfl rfl (by assumption) (by assumption) ?_
  refine g_aload_n dX0_doWhole_4 rfl ?_
  refine g_getI 7 2 450 dX0_doWhole_5 fX0_175 rfl rfl (by assumption) ?_
  refine g_callV (d1 := d - 1) (As := [_]) 2 dX0_doWhole_8 vX0_193 (by omega) (by assumption) rfl rfl (Nat.le_of_ble_eq_true rfl) ?_
  refine c_wholeAt (by omega) hS ?_
  rw [hb, cAt_in hb2]
  refine g_istore_n dX0_doWhole_11 (by decide) rfl ?_
  refine g_aload_n dX0_doWhole_12 rfl ?_
  refine g_getR 0 2 2 dX0_doWhole_13 fX0_32 rfl rfl (by assumption) (by assumption) ?_
  refine g_aload_n dX0_doWhole_16 rfl ?_
  refine g_getI 7 3 451 dX0_doWhole_17 fX0_172 rfl rfl (by assumption) ?_
  refine g_callV (d1 := d - 1) (As := [_]) 2 dX0_doWhole_20 vX0_193 (by omega) (by assumption) rfl rfl (Nat.le_of_ble_eq_true rfl) ?_
  refine c_wholeAt (by omega) hS ?_
  rw [hc, cAt_in hc2]
  refine g_istore_n dX0_doWhole_23 (by decide) rfl ?_
  refine g_aload_n dX0_doWhole_24 rfl ?_
  refine g_getI 7 1 449 dX0_doWhole_25 fX0_122 rfl rfl (by assumption) ?_
  refine g_callS (d1 := d - 1) (As := [_]) dX0_doWhole_28 sX0_241 (by omega) rfl rfl (Nat.le_of_ble_eq_true rfl) ?_
  refine c_divides ?_
  refine g_if_eq 41 dX0_doWhole_31 (by decide) (fun q => absurd q (sDiv_1.mpr hd3)) (fun _ => ?_)
  refine g_iload_n dX0_doWhole_34 rfl ?_
  refine g_if_ne 41 dX0_doWhole_35 (by decide) (fun _ => ?_) (fun q => absurd q (hz))
  refine g_aload_n dX0_doWhole_41 rfl ?_
  refine g_getR 0 2 2 dX0_doWhole_42 fX0_32 rfl rfl (by assumption) (by assumption) ?_
  refine g_aload_n dX0_doWhole_45 rfl ?_
  refine g_getI 7 2 450 dX0_doWhole_46 fX0_175 rfl rfl hq ?_
  rw [hb]
  refine g_aload_n dX0_doWhole_49 rfl ?_
  refine g_getI 7 1 449 dX0_doWhole_50 fX0_122 rfl rfl (by assumption) ?_
  refine g_iload_n dX0_doWhole_53 rfl ?_
  refine g_iload_n dX0_doWhole_54 rfl ?_
  refine g_callS (d1 := d - 1) (As := [_, _, _]) dX0_doWhole_55 sX0_258 (by omega) rfl rfl (Nat.le_of_ble_eq_true rfl) ?_
  refine hM _ ?_
  refine g_i2d dX0_doWhole_58 ?_
  refine g_callV (d1 := d - 1) (As := [_, _]) 2 dX0_doWhole_59 vX0_206 (by omega) o66 rfl rfl (Nat.le_of_ble_eq_true rfl) ?_
  refine c_turn hS hb2 (fun z => ?_) (fun z => ?_)
  · refine g_iret dX0_doWhole_62 rfl ?_
    exact k1 z
  · refine g_iret dX0_doWhole_62 rfl ?_
    exact k2 z
set_option maxHeartbeats 4000000 in
set_option maxRecDepth 20000 in
theorem c_doWideZ {g : GE} {d : Nat} {w : GW} {Q : Option Value → GW → Prop} (hd : 2 ≤ d) {q b c : Nat} (hS : SK g w) (hq : gOb g w q 7) (hb : gI w 450 q = nI b) (hb2 : b < 8) (hc : gI w 451 q = nI c) (hc2 : c < 8) (hd3 : gI w 449 q = 3 ∨ gI w 449 q = 4) (hz : FP.d2l (gD w (eB g + 67) c) = 0) (k : Q (some (.int 7)) w) : gM g d mX0_doWide [.ref (eB g + 1), .ref q] w Q := by
  refine gM.of (by decide) (Nat.le_of_ble_eq_true rfl) ?_
  have o1 : gOb g w (eB g + 1) 0 := hS.ob 1 rfl
  have o66 : gOb g w (eB g + 66) 2 := hS.ob 66 rfl
  have r2 : gR w 2 (eB g + 1) = some (eB g + 66) := hS.rf 2 1 66 (by decide)
  have o68 : gOb g w (eB g + 68) 4 := hS.ob 68 rfl
  have r3 : gR w 3 (eB g + 1) = some (eB g + 68) := hS.rf 3 1 68 (by decide)
  refine g_aload_n dX0_doWide_0 rfl ?_
  refine g_getR 0 2 2 dX0_doWide_1 fX0_32 rfl rfl (by assumption) (by assumption) ?_
  refine g_aload_n dX0_doWide_4 rfl ?_
  refine g_getI 7 2 450 dX0_doWide_5 fX0_175 rfl rfl (by assumption) ?_
  refine g_callV (d1 := d - 1) (As := [_]) 2 dX0_doWide_8 vX0_168 (by omega) (by assumption) rfl rfl (Nat.le_of_ble_eq_true rfl) ?_
  refine c_at hS ?_
  rw [hb, cAt_in hb2]
  refine g_d2l dX0_doWide_11 ?_
  refine g_lstore_n dX0_doWide_12 (by decide) rfl ?_
  refine g_aload_n dX0_doWide_13 rfl ?_
  refine g_getR 0 2 2 dX0_doWide_14 fX0_32 rfl rfl (by assumption) (by assumption) ?_
  refine g_aload_n dX0_doWide_17 rfl ?_
  refine g_getI 7 3 451 dX0_doWide_18 fX0_172 rfl rfl (by assumption) ?_
  refine g_callV (d1 := d - 1) (As := [_]) 2 dX0_doWide_21 vX0_168 (by omega) (by assumption) rfl rfl (Nat.le_of_ble_eq_true rfl) ?_
  refine c_at hS ?_
  rw [hc, cAt_in hc2]
  refine g_d2l dX0_doWide_24 ?_
  refine g_lstore dX0_doWide_25 (by decide) rfl ?_
  refine g_aload_n dX0_doWide_27 rfl ?_
  refine g_getI 7 1 449 dX0_doWide_28 fX0_122 rfl rfl (by assumption) ?_
  refine g_callS (d1 := d - 1) (As := [_]) dX0_doWide_31 sX0_241 (by omega) rfl rfl (Nat.le_of_ble_eq_true rfl) ?_
  refine c_divides ?_
  refine g_if_eq 47 dX0_doWide_34 (by decide) (fun q => absurd q (sDiv_1.mpr hd3)) (fun _ => ?_)
  refine g_lload dX0_doWide_37 rfl ?_
  refine g_lconstV (v := 0) dX0_doWide_39 (by decide) ?_
  refine g_lcmp dX0_doWide_40 ?_
  refine g_if_ne 47 dX0_doWide_41 (by decide) (fun q => absurd ((lg0 _).mpr hz) q) (fun _ => ?_)
  refine g_bipushV (v := 7) dX0_doWide_44 (by decide) ?_
  refine g_iret dX0_doWide_46 rfl ?_
  exact k
set_option maxHeartbeats 4000000 in
set_option maxRecDepth 20000 in
theorem c_doWideN {g : GE} {d : Nat} {w : GW} {Q : Option Value → GW → Prop} (hd : 4 ≤ d) {q b c : Nat} (hS : SK g w) (hq : gOb g w q 7) (hb : gI w 450 q = nI b) (hb2 : b < 8) (hc : gI w 451 q = nI c) (hc2 : c < 8) (hd3 : ¬ (gI w 449 q = 3 ∨ gI w 449 q = 4)) {v : Int64} (hM : ∀ Q1 : Option Value → GW → Prop, Q1 (some (.long v)) w → gM g (d - 1) mX8_wide [.int (gI w 449 q), .long (FP.d2l (gD w (eB g + 67) b)), .long (FP.d2l (gD w (eB g + 67) c))] w Q1) (k1 : fBeyond (FP.l2d v) → Q (some (.int 8)) w) (k2 : ¬ fBeyond (FP.l2d v) → Q (some (.int 0)) (setD w (eB g + 67) b (FP.l2d v))) : gM g d mX0_doWide [.ref (eB g + 1), .ref q] w Q := by
  refine gM.of (by decide) (Nat.le_of_ble_eq_true rfl) ?_
  have o1 : gOb g w (eB g + 1) 0 := hS.ob 1 rfl
  have o66 : gOb g w (eB g + 66) 2 := hS.ob 66 rfl
  have r2 : gR w 2 (eB g + 1) = some (eB g + 66) := hS.rf 2 1 66 (by decide)
  have o68 : gOb g w (eB g + 68) 4 := hS.ob 68 rfl
  have r3 : gR w 3 (eB g + 1) = some (eB g + 68) := hS.rf 3 1 68 (by decide)
  refine g_aload_n dX0_doWide_0 rfl ?_
  refine g_getR 0 2 2 dX0_doWide_1 fX0_32 rfl rfl (by assumption) (by assumption) ?_
  refine g_aload_n dX0_doWide_4 rfl ?_
  refine g_getI 7 2 450 dX0_doWide_5 fX0_175 rfl rfl (by assumption) ?_
  refine g_callV (d1 := d - 1) (As := [_]) 2 dX0_doWide_8 vX0_168 (by omega) (by assumption) rfl rfl (Nat.le_of_ble_eq_true rfl) ?_
  refine c_at hS ?_
  rw [hb, cAt_in hb2]
  refine g_d2l dX0_doWide_11 ?_
  refine g_lstore_n dX0_doWide_12 (by decide) rfl ?_
  refine g_aload_n dX0_doWide_13 rfl ?_
  refine g_getR 0 2 2 dX0_doWide_14 fX0_32 rfl rfl (by assumption) (by assumption) ?_
  refine g_aload_n dX0_doWide_17 rfl ?_
  refine g_getI 7 3 451 dX0_doWide_18 fX0_172 rfl rfl (by assumption) ?_
  refine g_callV (d1 := d - 1) (As := [_]) 2 dX0_doWide_21 vX0_168 (by omega) (by assumption) rfl rfl (Nat.le_of_ble_eq_true rfl) ?_
  refine c_at hS ?_
  rw [hc, cAt_in hc2]
  refine g_d2l dX0_doWide_24 ?_
  refine g_lstore dX0_doWide_25 (by decide) rfl ?_
  refine g_aload_n dX0_doWide_27 rfl ?_
  refine g_getI 7 1 449 dX0_doWide_28 fX0_122 rfl rfl (by assumption) ?_
  refine g_callS (d1 := d - 1) (As := [_]) dX0_doWide_31 sX0_241 (by omega) rfl rfl (Nat.le_of_ble_eq_true rfl) ?_
  refine c_divides ?_
  refine g_if_eq 47 dX0_doWide_34 (by decide) (fun _ => ?_) (fun q => absurd (Classical.byContradiction fun z => hd3 (sDiv_1.mp z)) q)
  refine g_aload_n dX0_doWide_47 rfl ?_
  refine g_getR 0 2 2 dX0_doWide_48 fX0_32 rfl rfl (by assumption) (by assumption) ?_
  refine g_aload_n dX0_doWide_51 rfl ?_
  refine g_getI 7 2 450 dX0_doWide_52 fX0_175 rfl rfl hq ?_
  rw [hb]
  refine g_aload_n dX0_doWide_55 rfl ?_
  refine g_getI 7 1 449 dX0_doWide_56 fX0_122 rfl rfl (by assumption) ?_
  refine g_lload_n dX0_doWide_59 rfl ?_
  refine g_lload dX0_doWide_60 rfl ?_
  refine g_callS (d1 := d - 1) (As := [_, _, _]) dX0_doWide_62 sX0_262 (by omega) rfl rfl (Nat.le_of_ble_eq_true rfl) ?_
  refine hM _ ?_
  refine g_l2d dX0_doWide_65 ?_
  refine g_callV (d1 := d - 1) (As := [_, _]) 2 dX0_doWide_66 vX0_206 (by omega) o66 rfl rfl (Nat.le_of_ble_eq_true rfl) ?_
  refine c_turn hS hb2 (fun z => ?_) (fun z => ?_)
  · refine g_iret dX0_doWide_69 rfl ?_
    exact k1 z
  · refine g_iret dX0_doWide_69 rfl ?_
    exact k2 z
set_option maxHeartbeats 4000000 in
set_option maxRecDepth 20000 in
theorem c_doWideD {g : GE} {d : Nat} {w : GW} {Q : Option Value → GW → Prop} (hd : 4 ≤ d) {q b c : Nat} (hS : SK g w) (hq : gOb g w q 7) (hb : gI w 450 q = nI b) (hb2 : b < 8) (hc : gI w 451 q = nI c) (hc2 : c < 8) (hd3 : gI w 449 q = 3 ∨ gI w 449 q = 4) (hz : ¬ FP.d2l (gD w (eB g + 67) c) = 0) {v : Int64} (hM : ∀ Q1 : Option Value → GW → Prop, Q1 (some (.long v)) w → gM g (d - 1) mX8_wide [.int (gI w 449 q), .long (FP.d2l (gD w (eB g + 67) b)), .long (FP.d2l (gD w (eB g + 67) c))] w Q1) (k1 : fBeyond (FP.l2d v) → Q (some (.int 8)) w) (k2 : ¬ fBeyond (FP.l2d v) → Q (some (.int 0)) (setD w (eB g + 67) b (FP.l2d v))) : gM g d mX0_doWide [.ref (eB g + 1), .ref q] w Q := by
  refine gM.of (by decide) (Nat.le_of_ble_eq_true rfl) ?_
  have o1 : gOb g w (eB g + 1) 0 := hS.ob 1 rfl
  have o66 : gOb g w (eB g + 66) 2 := hS.ob 66 rfl
  have r2 : gR w 2 (eB g + 1) = some (eB g + 66) := hS.rf 2 1 66 (by decide)
  have o68 : gOb g w (eB g + 68) 4 := hS.ob 68 rfl
  have r3 : gR w 3 (eB g + 1) = some (eB g + 68) := hS.rf 3 1 68 (by decide)
  refine g_aload_n dX0_doWide_0 rfl ?_
  refine g_getR 0 2 2 dX0_doWide_1 fX0_32 rfl rfl (by assumption) (by assumption) ?_
  refine g_aload_n dX0_doWide_4 rfl ?_
  refine g_getI 7 2 450 dX0_doWide_5 fX0_175 rfl rfl (by assumption) ?_
  refine g_callV (d1 := d - 1) (As := [_]) 2 dX0_doWide_8 vX0_168 (by omega) (by assumption) rfl rfl (Nat.le_of_ble_eq_true rfl) ?_
  refine c_at hS ?_
  rw [hb, cAt_in hb2]
  refine g_d2l dX0_doWide_11 ?_
  refine g_lstore_n dX0_doWide_12 (by decide) rfl ?_
  refine g_aload_n dX0_doWide_13 rfl ?_
  refine g_getR 0 2 2 dX0_doWide_14 fX0_32 rfl rfl (by assumption) (by assumption) ?_
  refine g_aload_n dX0_doWide_17 rfl ?_
  refine g_getI 7 3 451 dX0_doWide_18 fX0_172 rfl rfl (by assumption) ?_
  refine g_callV (d1 := d - 1) (As := [_]) 2 dX0_doWide_21 vX0_168 (by omega) (by assumption) rfl rfl (Nat.le_of_ble_eq_true rfl) ?_
  refine c_at hS ?_
  rw [hc, cAt_in hc2]
  refine g_d2l dX0_doWide_24 ?_
  refine g_lstore dX0_doWide_25 (by decide) rfl ?_
  refine g_aload_n dX0_doWide_27 rfl ?_
  refine g_getI 7 1 449 dX0_doWide_28 fX0_122 rfl rfl (by assumption) ?_
  refine g_callS (d1 := d - 1) (As := [_]) dX0_doWide_31 sX0_241 (by omega) rfl rfl (Nat.le_of_ble_eq_true rfl) ?_
  refine c_divides ?_
  refine g_if_eq 47 dX0_doWide_34 (by decide) (fun q => absurd q (sDiv_1.mpr hd3)) (fun _ => ?_)
  refine g_lload dX0_doWide_37 rfl ?_
  refine g_lconstV (v := 0) dX0_doWide_39 (by decide) ?_
  refine g_lcmp dX0_doWide_40 ?_
  refine g_if_ne 47 dX0_doWide_41 (by decide) (fun _ => ?_) (fun q => absurd q (fun z => hz ((lg0 _).mp z)))
  refine g_aload_n dX0_doWide_47 rfl ?_
  refine g_getR 0 2 2 dX0_doWide_48 fX0_32 rfl rfl (by assumption) (by assumption) ?_
  refine g_aload_n dX0_doWide_51 rfl ?_
  refine g_getI 7 2 450 dX0_doWide_52 fX0_175 rfl rfl hq ?_
  rw [hb]
  refine g_aload_n dX0_doWide_55 rfl ?_
  refine g_getI 7 1 449 dX0_doWide_56 fX0_122 rfl rfl (by assumption) ?_
  refine g_lload_n dX0_doWide_59 rfl ?_
  refine g_lload dX0_doWide_60 rfl ?_
  refine g_callS (d1 := d - 1) (As := [_, _, _]) dX0_doWide_62 sX0_262 (by omega) rfl rfl (Nat.le_of_ble_eq_true rfl) ?_
  refine hM _ ?_
  refine g_l2d dX0_doWide_65 ?_
  refine g_callV (d1 := d - 1) (As := [_, _]) 2 dX0_doWide_66 vX0_206 (by omega) o66 rfl rfl (Nat.le_of_ble_eq_true rfl) ?_
  refine c_turn hS hb2 (fun z => ?_) (fun z => ?_)
  · refine g_iret dX0_doWide_69 rfl ?_
    exact k1 z
  · refine g_iret dX0_doWide_69 rfl ?_
    exact k2 z
