/-! ===== run: the class ===== -/
def run0 (g : GE) (w : GW) : GW := setR (setI (setI (setI (setI w 257 (eB g + 68) 0) 5 (eB g + 1) 0) 6 (eB g + 1) 0) 7 (eB g + 1) 0) 8 (eB g + 1) none
theorem CFr_run0 (g : GE) (w : GW) : CFr g w (run0 g w) := ((((CFr_setI 257 _ _ (by omega)).thn (CFr_setI 5 _ _ (by omega))).thn (CFr_setI 6 _ _ (by omega))).thn (CFr_setI 7 _ _ (by omega))).thn (CFr_setR _ _)
theorem SK_run0 {g : GE} {w : GW} (h : SK g w) : SK g (run0 g w) := (CFr_run0 g w).sk h
theorem ob_setI {g : GE} {w : GW} {a k c b : Nat} {x : Int32} (h : gOb g w a k) : gOb g (setI w c b x) a k := ⟨h.1, by rw [gN_setI]; exact h.2.1, by rw [gK_setI]; exact h.2.2⟩
theorem ob_setR {g : GE} {w : GW} {a k c b : Nat} {x : Option Nat} (h : gOb g w a k) : gOb g (setR w c b x) a k := ⟨h.1, by rw [gN_setR]; exact h.2.1, by rw [gK_setR]; exact h.2.2⟩
set_option maxHeartbeats 4000000 in
set_option maxRecDepth 20000 in
theorem c_begin_tailN {g : GE} {d : Nat} {w : GW} {Q : Option Value → GW → Prop} (hd : 2 ≤ d) {r s : Nat} (o10 : gOb g w (eB g + 1) 0) (oR0 : gOb g w (aRt g r) 5) (hs0 : gI w 323 (aRt g r) = nI s) {v : Int32} {w2 : GW} (hM : Ans g (d - 1) mX0_doSteps [.ref (eB g + 1), .ref (aRt g r), .int 0, .int (nI s), .null, .int 0] w (some (.int v)) w2) (o12 : gOb g w2 (eB g + 1) 0) (h8 : gR w2 8 (eB g + 1) = none) (k : Q (some (.int 0)) w2) : gF g d mX0_begin 27 [(0, .ref (eB g + 1)), (1, .ref (aRt g r))] [] w Q := by
  refine g_aload_n dX0_begin_27 rfl ?_
  refine g_aload_n dX0_begin_28 rfl ?_
  refine g_iconstV (v := 0) dX0_begin_29 (by decide) ?_
  refine g_aload_n dX0_begin_30 rfl ?_
  refine g_getI 5 3 323 dX0_begin_31 fX0_60 rfl rfl oR0 ?_
  rw [hs0]
  refine g_null dX0_begin_34 ?_
  refine g_iconstV (v := 0) dX0_begin_35 (by decide) ?_
  refine g_callV (d1 := d - 1) (As := [_, _, _, _, _]) 0 dX0_begin_36 vX0_63 (by omega) o10 rfl rfl (Nat.le_of_ble_eq_true rfl) ?_
  refine hM _ ?_
  refine g_pop dX0_begin_39 rfl ?_
  refine g_aload_n dX0_begin_40 rfl ?_
  refine g_getN 0 8 8 dX0_begin_41 fX0_56 rfl rfl o12 h8 ?_
  refine g_ifnonnullN dX0_begin_44 ?_
  refine g_iconstV (v := 0) dX0_begin_47 (by decide) ?_
  refine g_goto 58 dX0_begin_48 (by decide) ?_
  refine g_iret dX0_begin_58 rfl ?_
  exact k
set_option maxHeartbeats 4000000 in
set_option maxRecDepth 20000 in
theorem c_begin_tailY {g : GE} {d : Nat} {w : GW} {Q : Option Value → GW → Prop} (hd : 2 ≤ d) {r s : Nat} (o10 : gOb g w (eB g + 1) 0) (oR0 : gOb g w (aRt g r) 5) (hs0 : gI w 323 (aRt g r) = nI s) {v : Int32} {w2 : GW} (hM : Ans g (d - 1) mX0_doSteps [.ref (eB g + 1), .ref (aRt g r), .int 0, .int (nI s), .null, .int 0] w (some (.int v)) w2) (o12 : gOb g w2 (eB g + 1) 0) {f : Nat} (h8 : gR w2 8 (eB g + 1) = some f) (of : gOb g w2 f 3) (k : Q (some (.int (gI w2 192 f))) w2) : gF g d mX0_begin 27 [(0, .ref (eB g + 1)), (1, .ref (aRt g r))] [] w Q := by
  refine g_aload_n dX0_begin_27 rfl ?_
  refine g_aload_n dX0_begin_28 rfl ?_
  refine g_iconstV (v := 0) dX0_begin_29 (by decide) ?_
  refine g_aload_n dX0_begin_30 rfl ?_
  refine g_getI 5 3 323 dX0_begin_31 fX0_60 rfl rfl oR0 ?_
  rw [hs0]
  refine g_null dX0_begin_34 ?_
  refine g_iconstV (v := 0) dX0_begin_35 (by decide) ?_
  refine g_callV (d1 := d - 1) (As := [_, _, _, _, _]) 0 dX0_begin_36 vX0_63 (by omega) o10 rfl rfl (Nat.le_of_ble_eq_true rfl) ?_
  refine hM _ ?_
  refine g_pop dX0_begin_39 rfl ?_
  refine g_aload_n dX0_begin_40 rfl ?_
  refine g_getR 0 8 8 dX0_begin_41 fX0_56 rfl rfl o12 h8 ?_
  refine g_ifnonnull 51 dX0_begin_44 (by decide) ?_
  refine g_aload_n dX0_begin_51 rfl ?_
  refine g_getR 0 8 8 dX0_begin_52 fX0_56 rfl rfl o12 h8 ?_
  refine g_getI 3 0 192 dX0_begin_55 fX0_67 rfl rfl of ?_
  refine g_iret dX0_begin_58 rfl ?_
  exact k
set_option maxHeartbeats 4000000 in
set_option maxRecDepth 20000 in
theorem c_begin_head {g : GE} {d : Nat} {w : GW} {Q : Option Value → GW → Prop} (hd : 2 ≤ d) {r : Nat} (hS : SK g w) {W0 : GW} (hW : setR (setI (setI (setI (setI w 257 (eB g + 68) 0) 5 (eB g + 1) 0) 6 (eB g + 1) 0) 7 (eB g + 1) 0) 8 (eB g + 1) none = W0) (k : gF g d mX0_begin 27 [(0, .ref (eB g + 1)), (1, .ref (aRt g r))] [] W0 Q) : gM g d mX0_begin [.ref (eB g + 1), .ref (aRt g r)] w Q := by
  refine gM.of (by decide) (Nat.le_of_ble_eq_true rfl) ?_
  have o0 : gOb g w (eB g) 8 := hS.ob 0 rfl
  have r0 : gR w 512 (eB g) = some (eB g + 1) := hS.rf 512 0 1 (by decide)
  have o1 : gOb g w (eB g + 1) 0 := hS.ob 1 rfl
  have o68 : gOb g w (eB g + 68) 4 := hS.ob 68 rfl
  have r3 : gR w 3 (eB g + 1) = some (eB g + 68) := hS.rf 3 1 68 (by decide)
  have q1 := ob_setI (c := 257) (b := eB g + 68) (x := 0) o1
  have q2 := ob_setI (c := 5) (b := eB g + 1) (x := 0) q1
  have q3 := ob_setI (c := 6) (b := eB g + 1) (x := 0) q2
  have q4 := ob_setI (c := 7) (b := eB g + 1) (x := 0) q3
  refine g_aload_n dX0_begin_0 rfl ?_
  refine g_getR 0 3 3 dX0_begin_1 fX0_39 rfl rfl (by assumption) (by assumption) ?_
  refine g_callV (d1 := d - 1) (As := []) 4 dX0_begin_4 vX0_43 (by omega) (by assumption) rfl rfl (Nat.le_of_ble_eq_true rfl) ?_
  refine c_empty hS ?_
  refine g_aload_n dX0_begin_7 rfl ?_
  refine g_iconstV (v := 0) dX0_begin_8 (by decide) ?_
  refine g_putI 0 5 5 dX0_begin_9 fX0_46 rfl rfl q1 ?_
  refine g_aload_n dX0_begin_12 rfl ?_
  refine g_iconstV (v := 0) dX0_begin_13 (by decide) ?_
  refine g_putI 0 6 6 dX0_begin_14 fX0_50 rfl rfl q2 ?_
  refine g_aload_n dX0_begin_17 rfl ?_
  refine g_iconstV (v := 0) dX0_begin_18 (by decide) ?_
  refine g_putI 0 7 7 dX0_begin_19 fX0_53 rfl rfl q3 ?_
  refine g_aload_n dX0_begin_22 rfl ?_
  refine g_null dX0_begin_23 ?_
  refine g_putN 0 8 8 dX0_begin_24 fX0_56 rfl rfl rfl rfl q4 ?_
  rw [hW]
  exact k
theorem c_beginNo {g : GE} {d : Nat} {w : GW} {Q : Option Value → GW → Prop} (hd : 2 ≤ d) {r s : Nat} (hS : SK g w) (hr : r < 4) (hs : gI w 323 (aRt g r) = nI s) {v : Int32} {w2 : GW} (hM : Ans g (d - 1) mX0_doSteps [.ref (eB g + 1), .ref (aRt g r), .int 0, .int (nI s), .null, .int 0] (run0 g w) (some (.int v)) w2) (hS2 : SK g w2) (h8 : gR w2 8 (eB g + 1) = none) (k : Q (some (.int 0)) w2) : gM g d mX0_begin [.ref (eB g + 1), .ref (aRt g r)] w Q := by
  have hs0 : gI (run0 g w) 323 (aRt g r) = nI s := by unfold run0; rw [gI_setR, gI_setI, up2_ne _ _ (by omega), gI_setI, up2_ne _ _ (by omega), gI_setI, up2_ne _ _ (by omega), gI_setI, up2_ne _ _ (by omega)]; exact hs
  exact c_begin_head hd hS (W0 := run0 g w) (by unfold run0; exact Eq.refl _) (c_begin_tailN hd ((SK_run0 hS).ob 1 rfl) ((SK_run0 hS).rt hr).1 hs0 hM (hS2.ob 1 rfl) h8 k)
theorem c_beginYes {g : GE} {d : Nat} {w : GW} {Q : Option Value → GW → Prop} (hd : 2 ≤ d) {r s : Nat} (hS : SK g w) (hr : r < 4) (hs : gI w 323 (aRt g r) = nI s) {v : Int32} {w2 : GW} (hM : Ans g (d - 1) mX0_doSteps [.ref (eB g + 1), .ref (aRt g r), .int 0, .int (nI s), .null, .int 0] (run0 g w) (some (.int v)) w2) (hS2 : SK g w2) {f : Nat} (h8 : gR w2 8 (eB g + 1) = some f) (of : gOb g w2 f 3) (k : Q (some (.int (gI w2 192 f))) w2) : gM g d mX0_begin [.ref (eB g + 1), .ref (aRt g r)] w Q := by
  have hs0 : gI (run0 g w) 323 (aRt g r) = nI s := by unfold run0; rw [gI_setR, gI_setI, up2_ne _ _ (by omega), gI_setI, up2_ne _ _ (by omega), gI_setI, up2_ne _ _ (by omega), gI_setI, up2_ne _ _ (by omega)]; exact hs
  exact c_begin_head hd hS (W0 := run0 g w) (by unfold run0; exact Eq.refl _) (c_begin_tailY hd ((SK_run0 hS).ob 1 rfl) ((SK_run0 hS).rt hr).1 hs0 hM (hS2.ob 1 rfl) h8 of k)
set_option maxHeartbeats 4000000 in
set_option maxRecDepth 20000 in
theorem f_runNo {g : GE} {d : Nat} {w : GW} {Q : Option Value → GW → Prop} (hd : 2 ≤ d) (hS : SK g w) {r : Nat} (hr : r < 4) (ra : gR w 4 (eB g + 1) = some (aRt g r)) (h : 0 < gI w 324 (aRt g r)) (k : Q (some (.int (-1))) w) : gM g d mX9_run [.ref (eB g)] w Q := by
  refine gM.of (by decide) (Nat.le_of_ble_eq_true rfl) ?_
  have o0 : gOb g w (eB g) 8 := hS.ob 0 rfl
  have r0 : gR w 512 (eB g) = some (eB g + 1) := hS.rf 512 0 1 (by decide)
  have o1 : gOb g w (eB g + 1) 0 := hS.ob 1 rfl
  have o68 : gOb g w (eB g + 68) 4 := hS.ob 68 rfl
  have r3 : gR w 3 (eB g + 1) = some (eB g + 68) := hS.rf 3 1 68 (by decide)
  obtain ⟨oR, -⟩ := hS.rt hr
  refine g_aload_n dX9_run_0 rfl ?_
  refine g_getR 8 0 512 dX9_run_1 fX9_10 rfl rfl (by assumption) (by assumption) ?_
  refine g_getR 0 4 4 dX9_run_4 fX9_20 rfl rfl (by assumption) (by assumption) ?_
  refine g_getI 5 4 324 dX9_run_7 fX9_44 rfl rfl (by assumption) ?_
  refine g_if_le 17 dX9_run_10 (by decide) (fun q => absurd q (by rw [Int32.not_le]; exact h)) (fun _ => ?_)
  refine g_iconstV (v := -1) dX9_run_13 (by decide) ?_
  refine g_goto 31 dX9_run_14 (by decide) ?_
  refine g_iret dX9_run_31 rfl ?_
  exact k
set_option maxHeartbeats 4000000 in
set_option maxRecDepth 20000 in
theorem f_runOn {g : GE} {d : Nat} {w : GW} {Q : Option Value → GW → Prop} (hd : 2 ≤ d) (hS : SK g w) {r : Nat} (hr : r < 4) (ra : gR w 4 (eB g + 1) = some (aRt g r)) (h : gI w 324 (aRt g r) = 0) {u : Int32} {w2 : GW} (hA : Ans g (d - 1) mX0_begin [.ref (eB g + 1), .ref (aRt g r)] w (some (.int u)) w2) (k : Q (some (.int u)) w2) : gM g d mX9_run [.ref (eB g)] w Q := by
  refine gM.of (by decide) (Nat.le_of_ble_eq_true rfl) ?_
  have o0 : gOb g w (eB g) 8 := hS.ob 0 rfl
  have r0 : gR w 512 (eB g) = some (eB g + 1) := hS.rf 512 0 1 (by decide)
  have o1 : gOb g w (eB g + 1) 0 := hS.ob 1 rfl
  have o68 : gOb g w (eB g + 68) 4 := hS.ob 68 rfl
  have r3 : gR w 3 (eB g + 1) = some (eB g + 68) := hS.rf 3 1 68 (by decide)
  obtain ⟨oR, -⟩ := hS.rt hr
  refine g_aload_n dX9_run_0 rfl ?_
  refine g_getR 8 0 512 dX9_run_1 fX9_10 rfl rfl (by assumption) (by assumption) ?_
  refine g_getR 0 4 4 dX9_run_4 fX9_20 rfl rfl (by assumption) (by assumption) ?_
  refine g_getI 5 4 324 dX9_run_7 fX9_44 rfl rfl (by assumption) ?_
  refine g_if_le 17 dX9_run_10 (by decide) (fun _ => ?_) (fun q => absurd (by rw [h]; decide) q)
  refine g_aload_n dX9_run_17 rfl ?_
  refine g_getR 8 0 512 dX9_run_18 fX9_10 rfl rfl (by assumption) (by assumption) ?_
  refine g_aload_n dX9_run_21 rfl ?_
  refine g_getR 8 0 512 dX9_run_22 fX9_10 rfl rfl (by assumption) (by assumption) ?_
  refine g_getR 0 4 4 dX9_run_25 fX9_20 rfl rfl (by assumption) (by assumption) ?_
  refine g_callV (d1 := d - 1) (As := [_]) 0 dX9_run_28 vX9_47 (by omega) (by assumption) rfl rfl (Nat.le_of_ble_eq_true rfl) ?_
  refine hA _ ?_
  refine g_iret dX9_run_31 rfl ?_
  exact k
/-! ===== run: the model ===== -/
def mRunR (σ : MW) : MW := sI (sI (sI (sI (sI (sI (sI (sI (sI (sI σ 22 0) 29 0) 31 0) 32 (-1)) 33 0) 34 0) 35 0) 36 0) 38 0) 23 (-1)
def mRun0 (σ : MW) (r : Nat) : MW := mBegin (mRunR σ) 0 r (-1)
set_option maxHeartbeats 4000000 in
set_option maxRecDepth 20000 in
theorem m_runNo {g : GE} {d : Nat} {w : GW} {σ : MW} {Q : Option Value → GW → Prop} (hS : SK g w) {r : Nat} (hR : mI σ 11 = nI r) (hr : r < 4) (h : 0 < mA σ 7 r) (k : Q (some (.int (-1))) (put g σ w)) : gM g d mX10_run [.ref (eB g + 70)] (put g σ w) Q := by
  refine gM.of (by decide) (Nat.le_of_ble_eq_true rfl) ?_
  refine g_aload_n dX10_run_0 rfl ?_
  refine mg_getA 7 7 dX10_run_1 fX10_31 rfl rt_7 hS ?_
  refine g_aload_n dX10_run_4 rfl ?_
  refine mg_getIv (x := nI r) 11 dX10_run_5 fX10_104 rfl (by decide) hS hR ?_
  refine mg_iald dX10_run_8 rfl rfl rfl (by omega) hS ?_
  refine g_if_le 14 dX10_run_9 (by decide) (fun q => absurd q (by rw [Int32.not_le]; exact h)) (fun _ => ?_)
  refine g_iconstV (v := -1) dX10_run_12 (by decide) ?_
  refine g_iret dX10_run_13 rfl ?_
  exact k
set_option maxHeartbeats 4000000 in
set_option maxRecDepth 20000 in
theorem m_runStart {g : GE} {d : Nat} {w : GW} {σ : MW} {Q : Option Value → GW → Prop} (hd : 2 ≤ d) (hS : SK g w) {r : Nat} (hR : mI σ 11 = nI r) (hr : r < 4) (h : mA σ 7 r = 0) (k : gF g d mX10_run 75 (mLs g 0) [] (put g (mRun0 σ r) w) Q) : gM g d mX10_run [.ref (eB g + 70)] (put g σ w) Q := by
  refine gM.of (by decide) (Nat.le_of_ble_eq_true rfl) ?_
  refine g_aload_n dX10_run_0 rfl ?_
  refine mg_getA 7 7 dX10_run_1 fX10_31 rfl rt_7 hS ?_
  refine g_aload_n dX10_run_4 rfl ?_
  refine mg_getIv (x := nI r) 11 dX10_run_5 fX10_104 rfl (by decide) hS hR ?_
  refine mg_iald dX10_run_8 rfl rfl rfl (by omega) hS ?_
  refine g_if_le 14 dX10_run_9 (by decide) (fun _ => ?_) (fun q => absurd (by rw [h]; decide) q)
  refine g_aload_n dX10_run_14 rfl ?_
  refine g_iconstV (v := 0) dX10_run_15 (by decide) ?_
  refine mg_putI 22 dX10_run_16 fX10_132 rfl (by decide) hS ?_
  refine g_aload_n dX10_run_19 rfl ?_
  refine g_iconstV (v := 0) dX10_run_20 (by decide) ?_
  refine mg_putI 29 dX10_run_21 fX10_156 rfl (by decide) hS ?_
  refine g_aload_n dX10_run_24 rfl ?_
  refine g_iconstV (v := 0) dX10_run_25 (by decide) ?_
  refine mg_putI 31 dX10_run_26 fX10_138 rfl (by decide) hS ?_
  refine g_aload_n dX10_run_29 rfl ?_
  refine g_iconstV (v := -1) dX10_run_30 (by decide) ?_
  refine mg_putI 32 dX10_run_31 fX10_135 rfl (by decide) hS ?_
  refine g_aload_n dX10_run_34 rfl ?_
  refine g_iconstV (v := 0) dX10_run_35 (by decide) ?_
  refine mg_putI 33 dX10_run_36 fX10_163 rfl (by decide) hS ?_
  refine g_aload_n dX10_run_39 rfl ?_
  refine g_iconstV (v := 0) dX10_run_40 (by decide) ?_
  refine mg_putI 34 dX10_run_41 fX10_184 rfl (by decide) hS ?_
  refine g_aload_n dX10_run_44 rfl ?_
  refine g_iconstV (v := 0) dX10_run_45 (by decide) ?_
  refine mg_putI 35 dX10_run_46 fX10_175 rfl (by decide) hS ?_
  refine g_aload_n dX10_run_49 rfl ?_
  refine g_iconstV (v := 0) dX10_run_50 (by decide) ?_
  refine mg_putI 36 dX10_run_51 fX10_166 rfl (by decide) hS ?_
  refine g_aload_n dX10_run_54 rfl ?_
  refine g_iconstV (v := 0) dX10_run_55 (by decide) ?_
  refine mg_putI 38 dX10_run_56 fX10_207 rfl (by decide) hS ?_
  refine g_aload_n dX10_run_59 rfl ?_
  refine g_iconstV (v := -1) dX10_run_60 (by decide) ?_
  refine mg_putI 23 dX10_run_61 fX10_75 rfl (by decide) hS ?_
  refine g_aload_n dX10_run_64 rfl ?_
  refine g_aload_n dX10_run_65 rfl ?_
  refine mg_getIv (x := nI r) 11 dX10_run_66 fX10_104 rfl (by decide) hS hR ?_
  refine g_iconstV (v := -1) dX10_run_69 (by decide) ?_
  refine g_callV (d1 := d - 1) (As := [_, _]) 9 dX10_run_70 vX10_210 (by omega) (mg_ob hS) rfl rfl (Nat.le_of_ble_eq_true rfl) ?_
  refine m_begin (σ := mRunR σ) (o := 0) (by omega) hS rfl (by decide) ?_
  refine g_iconstV (v := 0) dX10_run_73 (by decide) ?_
  refine g_istore_n dX10_run_74 (by decide) rfl ?_
  exact k
set_option maxHeartbeats 4000000 in
set_option maxRecDepth 20000 in
theorem m_runEnd0 {g : GE} {d n : Nat} {w : GW} {σ : MW} {Q : Option Value → GW → Prop} (hS : SK g w) (hn : n < 900001) (ho : mI σ 29 = 0) (hw : ¬ mI σ 31 = 3) (k : Q (some (.int 0)) (put g σ w)) : gF g d mX10_run 75 (mLs g n) [] (put g σ w) Q := by
  refine g_iload_n dX10_run_75 rfl ?_
  refine g_ldc dX10_run_76 qX10_214 ?_
  refine g_icmp_ge 112 dX10_run_78 (by decide) (fun q => absurd q (nI_ge (b := 1000000) (by omega) (by decide))) (fun _ => ?_)
  refine g_aload_n dX10_run_81 rfl ?_
  refine mg_getIv (x := 0) 29 dX10_run_82 fX10_156 rfl (by decide) hS ho ?_
  refine g_if_le 112 dX10_run_85 (by decide) (fun _ => ?_) (fun q => absurd (by decide) q)
  refine g_aload_n dX10_run_112 rfl ?_
  refine mg_getI 31 dX10_run_113 fX10_138 rfl (by decide) hS ?_
  refine g_iconstV (v := 3) dX10_run_116 (by decide) ?_
  refine g_icmp_eq 122 dX10_run_117 (by decide) (fun q => absurd q (hw)) (fun _ => ?_)
  refine g_iconstV (v := 0) dX10_run_120 (by decide) ?_
  refine g_iret dX10_run_121 rfl ?_
  exact k
set_option maxHeartbeats 4000000 in
set_option maxRecDepth 20000 in
theorem m_runEnd3 {g : GE} {d n φ : Nat} {w : GW} {σ : MW} {Q : Option Value → GW → Prop} (hS : SK g w) (hn : n < 900001) (ho : mI σ 29 = 0) (hw : mI σ 31 = 3) (hf : mI σ 32 = nI φ) (hφ : φ < 600) (k : Q (some (.int (mA σ 16 φ))) (put g (sI σ 23 (nI φ)) w)) : gF g d mX10_run 75 (mLs g n) [] (put g σ w) Q := by
  have h23 : mI (sI σ 23 (nI φ)) 23 = nI φ := by rw [mI_sI, if_pos rfl]
  refine g_iload_n dX10_run_75 rfl ?_
  refine g_ldc dX10_run_76 qX10_214 ?_
  refine g_icmp_ge 112 dX10_run_78 (by decide) (fun q => absurd q (nI_ge (b := 1000000) (by omega) (by decide))) (fun _ => ?_)
  refine g_aload_n dX10_run_81 rfl ?_
  refine mg_getIv (x := 0) 29 dX10_run_82 fX10_156 rfl (by decide) hS ho ?_
  refine g_if_le 112 dX10_run_85 (by decide) (fun _ => ?_) (fun q => absurd (by decide) q)
  refine g_aload_n dX10_run_112 rfl ?_
  refine mg_getI 31 dX10_run_113 fX10_138 rfl (by decide) hS ?_
  refine g_iconstV (v := 3) dX10_run_116 (by decide) ?_
  refine g_icmp_eq 122 dX10_run_117 (by decide) (fun _ => ?_) (fun q => absurd (hw) q)
  refine g_aload_n dX10_run_122 rfl ?_
  refine g_aload_n dX10_run_123 rfl ?_
  refine mg_getIv (x := nI φ) 32 dX10_run_124 fX10_135 rfl (by decide) hS hf ?_
  refine mg_putI 23 dX10_run_127 fX10_75 rfl (by decide) hS ?_
  refine g_aload_n dX10_run_130 rfl ?_
  refine mg_getA 17 16 dX10_run_131 fX10_60 rfl rt_16 hS ?_
  refine g_aload_n dX10_run_134 rfl ?_
  refine mg_getIv (x := nI φ) 23 dX10_run_135 fX10_75 rfl (by decide) hS h23 ?_
  refine mg_iald dX10_run_138 (by first | exact rfl | assumption) rfl rfl (by omega) hS ?_
  refine g_iret dX10_run_139 rfl ?_
  exact k
/-! ===== a routine, behind a run ===== -/
theorem RT_cfr {g : GE} {P : PG} {O : Nat → Nat} {w w' : GW} {A A' : Nat → Nat → Int32} {r s : Nat} {bs : List (Nat × Nat × Nat)} (hS : SK g w) (hr : r < 4) (hC : CFr g w w') (hA : ∀ j i, j ≤ 10 → A' j i = A j i) (h : RT g P O w A r s bs) : RT g P O w' A' r s bs := by
  obtain ⟨⟨p1, p2, p3, p4, p5, p6, p7⟩, hOw, h7, hBC, hMB, hCT⟩ := h
  obtain ⟨f1, f2, f3, f4, f5, f6, f7, f8, f9⟩ := id hC
  have hrt := rt_lt hS hr
  have eI : ∀ c a, a < gN w → 60 ≤ c → c < 500 → c ≠ 257 → c ≠ 387 → gI w' c a = gI w c a := fun c a ha q1 q2 q3 q4 => f8 c a ha (by omega) (by omega) (by omega) q3 q4
  refine ⟨⟨p1, by rw [eI _ _ hrt (by omega) (by omega) (by omega) (by omega)]; exact p2, by rw [hA _ _ (by omega)]; exact p3, by rw [eI _ _ hrt (by omega) (by omega) (by omega) (by omega), hA _ _ (by omega)]; exact p4, fun i hi => ?_, fun i j hi hj => by rw [hA _ _ (by omega)]; exact p6 i j hi hj, fun i hi => by rw [hA _ _ (by omega)]; exact p7 i hi⟩, hOw, by rw [hA _ _ (by omega)]; exact h7, ?_, fun k hk => by rw [hA _ _ (by omega), hA _ _ (by omega), hA _ _ (by omega)]; exact hMB k hk, ?_⟩
  · obtain ⟨q1, q2, q3, q4, q5, q6, q7, q8, q9, q10, q11⟩ := p5 i hi
    have ha := q2.2.1
    refine ⟨by rw [f5]; exact q1, hC.ob q2, ?_, ?_, ?_, ?_, ?_, ?_, ?_, by rw [f9 _ _ ha (by omega)]; exact q10, argOK_same (hA _ _ (by omega)) (hA _ _ (by omega)) (hA _ _ (by omega)) (hA _ _ (by omega)) q11⟩
    · rw [eI _ _ ha (by omega) (by omega) (by omega) (by omega), hA _ _ (by omega)]; exact q3
    · rw [eI _ _ ha (by omega) (by omega) (by omega) (by omega), hA _ _ (by omega)]; exact q4
    · rw [eI _ _ ha (by omega) (by omega) (by omega) (by omega), hA _ _ (by omega)]; exact q5
    · rw [eI _ _ ha (by omega) (by omega) (by omega) (by omega), hA _ _ (by omega)]; exact q6
    · rw [eI _ _ ha (by omega) (by omega) (by omega) (by omega)]; exact q7
    · rw [eI _ _ ha (by omega) (by omega) (by omega) (by omega)]; exact q8
    · rw [eI _ _ ha (by omega) (by omega) (by omega) (by omega)]; exact q9
  · rw [f9 _ _ hrt (by omega)]
    have key : ∀ a, a < gN w → gI w' 67 a = gI w 67 a ∧ gR w' 64 a = gR w 64 a ∧ gR w' 65 a = gR w 65 a ∧ gR w' 66 a = gR w 66 a := fun a ha => ⟨eI _ _ ha (by omega) (by omega) (by omega) (by omega), f9 _ _ ha (by omega), f9 _ _ ha (by omega), f9 _ _ ha (by omega)⟩
    cases hb : gR w 322 (aRt g r) with
    | none => rw [hb] at hBC; exact BC_keep (B := 0) (fun _ _ => rfl) (fun a k => hC.ob) (fun a ha => absurd ha (Nat.not_lt_zero _)) bs none (fun _ _ => ⟨rfl, rfl⟩) (fun q hq => by cases hq) hBC
    | some q0 => rw [hb] at hBC; exact BC_keep (B := q0 + 1) (fun _ _ => rfl) (fun a k => hC.ob) (fun a _ ha => key a ha) bs (some q0) (fun _ _ => ⟨rfl, rfl⟩) (fun q hq => by cases hq; omega) hBC
  · have e : (fun i => A' 0 (40 * r + i)) = (fun i => A 0 (40 * r + i)) := funext fun i => hA _ _ (by omega)
    rw [e]; exact hCT
theorem mRun_A (σ : MW) (r : Nat) : (∀ j i, j ≤ 20 ∨ 26 ≤ j → mA (mRun0 σ r) j i = mA σ j i) ∧ mD (mRun0 σ r) = mD σ ∧ mA (mRun0 σ r) 21 0 = 0 ∧ mA (mRun0 σ r) 22 0 = nI r := by
  refine ⟨fun j i hj => ?_, rfl, ?_, ?_⟩
  · unfold mRun0 mBegin mPush
    rw [mA_sI, mA_sI, mA_sA, if_neg (by omega), mA_sA, if_neg (by omega), mA_sA, if_neg (by omega), mA_sA, if_neg (by omega), mA_sA, if_neg (by omega)]; rfl
  · unfold mRun0 mBegin mPush
    rw [mA_sI, mA_sI, mA_sA, if_neg (by omega), mA_sA, if_neg (by omega), mA_sA, if_neg (by omega), mA_sA, if_neg (by omega), mA_sA, if_pos ⟨rfl, rfl⟩]
  · unfold mRun0 mBegin mPush
    rw [mA_sI, mA_sI, mA_sA, if_neg (by omega), mA_sA, if_neg (by omega), mA_sA, if_neg (by omega), mA_sA, if_pos ⟨rfl, rfl⟩]
theorem mRun_I (σ : MW) (r : Nat) : mI (mRun0 σ r) 11 = mI σ 11 ∧ mI (mRun0 σ r) 22 = 0 ∧ mI (mRun0 σ r) 23 = -1 ∧ mI (mRun0 σ r) 29 = nI 1 ∧ mI (mRun0 σ r) 30 = nI (40 * r) ∧ mI (mRun0 σ r) 31 = 0 ∧ mI (mRun0 σ r) 33 = 0 ∧ mI (mRun0 σ r) 34 = 0 ∧ mI (mRun0 σ r) 35 = 0 ∧ mI (mRun0 σ r) 36 = 0 ∧ mI (mRun0 σ r) 38 = 0 := by
  refine ⟨?_, ?_, ?_, ?_, ?_, ?_, ?_, ?_, ?_, ?_, ?_⟩ <;> rfl
theorem run0_I {g : GE} {w : GW} : gI (run0 g w) 257 (eB g + 68) = 0 ∧ gI (run0 g w) 5 (eB g + 1) = 0 ∧ gI (run0 g w) 6 (eB g + 1) = 0 ∧ gI (run0 g w) 7 (eB g + 1) = 0 ∧ gR (run0 g w) 8 (eB g + 1) = none := by
  unfold run0
  refine ⟨?_, ?_, ?_, ?_, ?_⟩
  · rw [gI_setR, gI_setI, up2_ne _ _ (by omega), gI_setI, up2_ne _ _ (by omega), gI_setI, up2_ne _ _ (by omega), gI_setI, up2_at]
  · rw [gI_setR, gI_setI, up2_ne _ _ (by omega), gI_setI, up2_ne _ _ (by omega), gI_setI, up2_at]
  · rw [gI_setR, gI_setI, up2_ne _ _ (by omega), gI_setI, up2_at]
  · rw [gI_setR, gI_setI, up2_at]
  · rw [gR_setR, up2_at]
theorem gM_ans {g : GE} {d : Nat} {Y : GM} {as : List Value} {w : GW} {Q : Option Value → GW → Prop} (h : gM g d Y as w Q) : ∃ (r : Option Value) (w' : GW), Q r w' ∧ Ans g d Y as w r w' := by
  obtain ⟨r, w', h1, h2, h3, h4⟩ := h
  exact ⟨r, w', h1, fun Q' hq => ⟨r, w', hq, h2, h3, h4⟩⟩
set_option maxHeartbeats 4000000 in
theorem pair_run {g : GE} {P : PG} {O : Nat → Nat} {d : Nat} {w : GW} {σ : MW} (hd : 200 ≤ d) (hG : GT g) (hI : INV g P O w σ) : Pair g d mX9_run mX10_run [] w σ RI := by
  refine Pair_inv hI (fun w hM hI => ?_)
  obtain ⟨hS, hR, ⟨hDd, hDr, hDl⟩, hC, hT, r, hr, ra, rb⟩ := id hI
  obtain ⟨s, bs, hRT⟩ := hR r hr
  obtain ⟨hl, -⟩ := RT_len hRT
  obtain ⟨p1, p2, p3, p4, -⟩ := hRT.1
  have h7 := hRT.2.2.1
  by_cases h0 : bs.length = 0
  · have h70 : mA σ 7 r = 0 := by rw [h7, h0]; rfl
    obtain ⟨mA0, mD0, m21, m22⟩ := mRun_A σ r
    obtain ⟨i11, i22, i23, i29, i30, i31, i33, i34, i35, i36, i38⟩ := mRun_I σ r
    obtain ⟨w257, w5, w6, w7, w8⟩ := run0_I (g := g) (w := w)
    have hC0 := CFr_run0 g w
    have hS0 := SK_run0 hS
    have hPR := RT_pr hR
    have e0 : gD (run0 g w) = gD w ∧ gA (run0 g w) = gA w ∧ ∀ r', r' < 18 → gI (run0 g w) 387 (aRow g r') = gI w 387 (aRow g r') := by
      unfold run0
      exact ⟨by rw [gD_setR, gD_setI, gD_setI, gD_setI, gD_setI], by rw [gA_setR, gA_setI, gA_setI, gA_setI, gA_setI], fun r' _ => by rw [gI_setR, gI_setI, up2_ne _ _ (by omega), gI_setI, up2_ne _ _ (by omega), gI_setI, up2_ne _ _ (by omega), gI_setI, up2_ne _ _ (by omega)]⟩
    have hB0 : Base g P (run0 g w) (mRun0 σ r) 0 0 := by
      refine ⟨hS0, PR_same hS hC0 (fun j i hj => mA0 j i (by omega)) hPR, ⟨RelD_same hDd (fun i => by rw [e0.1]) (fun i => by rw [mD0]), fun r' hr' => RelR1_same (hDr r' hr') (e0.2.2 r' hr') (fun i _ => by rw [e0.1]) (fun i _ => by rw [e0.2.1]) (fun i _ => by rw [mD0]) (mA0 _ _ (by omega)) (mA0 _ _ (by omega)) (fun i _ => mA0 _ _ (by omega)), 0, by omega, w257, i38, fun i hi => absurd hi (Nat.not_lt_zero _)⟩, ⟨by omega, w5, i34, by rw [w6, i35], by rw [w7, i36], i22⟩, fun j hj => by rw [mA0 _ _ (by omega)]; exact hT j hj, hG.2.1, hG.2.2⟩
    obtain ⟨s', hP', -, hWx⟩ := hB0.2.1 r hr
    obtain ⟨kf, hW⟩ := hWx (by rw [mA0 _ _ (by omega)]; exact h70)
    have hs' : s' = s := PR1_uniq hRT.1 hP' (mA0 _ _ (by omega))
    subst hs'
    have hsim := Sim_all (WorkAll_ok g P) (d2 := d) (by omega) 4 0 (by omega) 6 (d - 1 - 1) kf r s' 0 s' 0 0 0 0 false false (run0 g w) (mRun0 σ r) none (by omega) hr hB0 hP' (Nat.le_refl _) (Nat.zero_le _) hW ⟨i29, ⟨by omega, m21, fun j q1 q2 => absurd q1 (by omega), m22, hr⟩, i33, i31, by rw [i30]; rfl, w8⟩ (fun q => absurd q (by decide)) (by unfold Cap; omega) (by omega)
    obtain ⟨rv, w', ⟨hgn, v, rfl, hRes⟩, hAns⟩ := gM_ans hsim
    obtain ⟨σ', c', nf', k', r1, r2, r3, r4, r5, r6, r7, r8, r9⟩ := hRes
    have hcc := r2.2.2.2.1.1
    unfold Bnd at r5
    have hnf : nf' ≤ 303 := by omega
    have hCw : CFr g w w' := hC0.thn r3
    have hS' := r2.1
    have hgw : gN w' = gN w + nf' := by
      have : gN (run0 g w) = gN w := by unfold run0; rw [gN_setR, gN_setI, gN_setI, gN_setI, gN_setI]
      omega
    have hgu : gU w' = gU w + 6 * nf' := by
      have := hCw.2.1
      omega
    obtain ⟨n1, n2, n3, n4, n5, n6⟩ := r2.2.2.2.1
    have k21 : mA σ' 21 0 = 0 := by rw [r4.2.2.1 _ _ (by omega) (by omega) (by omega)]; exact m21
    have k22 : mA σ' 22 0 = nI r := by rw [r4.2.2.1 _ _ (by omega) (by omega) (by omega)]; exact m22
    have k6 : mA σ' 6 r = nI s' := by rw [r4.1 _ _ (by omega), mA0 _ _ (by omega)]; exact p3
    have k23 : mI σ' 23 = -1 := by rw [r4.2.2.2.2.2]; exact i23
    have k11 : mI σ' 11 = nI r := by rw [r4.2.2.2.2.1, i11]; exact rb
    have hcls : ∀ Q : Option Value → GW → Prop, Q (some (.int v)) w' → gM g (d - 1 - 1) mX0_doSteps [.ref (eB g + 1), .ref (aRt g r), .int 0, .int (nI s'), .null, .int 0] (run0 g w) Q := hAns
    have h324 : gI w 324 (aRt g r) = 0 := by rw [p4]; exact h70
    have hwy := Out_way r9
    -- the invariant behind the run, for a last state τ of the model
    have fin : ∀ τ : MW, mA τ = mA σ' → mD τ = mD σ' → (∀ f, ¬ f = 23 → ¬ f = 29 → ¬ f = 30 → ¬ f = 31 → ¬ f = 33 → mI τ f = mI σ' f) → ((gR w' 8 (eB g + 1) = none ∧ mI τ 23 = -1) ∨ ∃ f φ nf : Nat, nf ≤ 600 ∧ gR w' 8 (eB g + 1) = some f ∧ mI τ 23 = nI φ ∧ FR g w' (mA τ) nf f φ) → INV g P O w' τ := by
      intro τ tA tD tI tT
      refine ⟨hS', fun r' hr' => ?_, DRL_same (c' := 200) (by omega) ⟨rfl, rfl, fun _ _ => rfl, rfl, tD, fun j i _ => by rw [tA], tI 38 (by decide) (by decide) (by decide) (by decide) (by decide)⟩ r2.2.2.1, ⟨by rw [n2, tI 34 (by decide) (by decide) (by decide) (by decide) (by decide), n3], by rw [n4, tI 35 (by decide) (by decide) (by decide) (by decide) (by decide)], by rw [n5, tI 36 (by decide) (by decide) (by decide) (by decide) (by decide)], tT⟩, fun j hj => by rw [tA]; exact r2.2.2.2.2.1 j hj, r, hr, by rw [hCw.2.2.2.2.2.2.2.2 _ _ (hS.ob 1 rfl).2.1 (by omega)]; exact ra, by rw [tI 11 (by decide) (by decide) (by decide) (by decide) (by decide)]; exact k11⟩
      obtain ⟨s1, bs1, h1⟩ := hR r' hr'
      exact ⟨s1, bs1, RT_cfr hS hr' hCw (fun j i hj => by rw [tA, r4.1 _ _ (by omega), mA0 _ _ (by omega)]) h1⟩
    -- no fault goes out
    have noF : ∀ (hz : gR w' 8 (eB g + 1) = none) (hv3 : ¬ v = 3) (hM1 : MS g d 1 σ' (mOver σ' 0)), ∃ (a1 b1 : Value) (P' : PG) (O' : Nat → Nat) (w2 : GW) (σ2 : MW), Ans g d mX9_run [.ref (eB g)] w (some a1) w2 ∧ MP g σ w2 ∧ (∀ w1, SK g w1 → Ans g d mX10_run [.ref (eB g + 70)] (put g σ w1) (some b1) (put g σ2 w1)) ∧ RI a1 b1 ∧ INV g P' O' w2 σ2 ∧ gN w2 ≤ gN w + 600 ∧ gU w2 ≤ gU w + 3600 := by
      intro hz hv3 hM1
      refine ⟨.int 0, .int 0, P, O, w', mOver σ' 0, fun Q hQ => f_runOn (by omega) hS hr ra h324 (fun Q2 hQ2 => c_beginNo (by omega) hS hr p2 hcls hS' hz hQ2) hQ, MP_cfr hS hM hCw, fun w1 hS1 Q hQ => m_runStart (by omega) hS1 rb hr h70 ((r1.thn hM1) w1 0 Q hS1 (by omega) (m_runEnd0 hS1 (by omega) rfl (by unfold mOver; rw [mI_sI, if_pos rfl]; decide) hQ)), ⟨0, rfl, rfl⟩, fin _ rfl rfl (fun f f1 f2 f3 f4 f5 => ?_) (Or.inl ⟨hz, ?_⟩), by omega, by omega⟩
      · unfold mOver; rw [mI_sI, if_neg f4, mI_sI, if_neg f5, mI_sI, if_neg f3, mI_sI, if_neg f2]
      · unfold mOver; rw [mI_sI, if_neg (by decide), mI_sI, if_neg (by decide), mI_sI, if_neg (by decide), mI_sI, if_neg (by decide)]; exact k23
    rcases r9 with ⟨z1, z2, z3, z4⟩ | ⟨z1, z2, z3, z4⟩ | ⟨z1, z2, z3⟩ | ⟨z1, z2, f, φ, z3, z4, z5⟩
    · refine noF z4 (by rw [z1]; decide) (MS_go (by omega) r7 (by omega) z2 (fun w1 hS1 Q kk => ?_))
      exact m_goOver (by omega) hS1 r7 (by omega) ⟨by omega, k21, fun j q1 q2 => absurd q1 (by omega), k22, hr⟩ k6 p1 z3 kk
    · exact absurd z3 (by decide)
    · refine noF z3 (by rw [z1]; decide) (MS_leave (by omega) r7 (by omega) (by rw [z2]; decide) (fun w1 hS1 Q kk => ?_))
      exact m_leaveRet (by omega) hS1 r7 (by omega) k21 z2 kk
    · have hφ : φ < nf' := by obtain ⟨-, kd, m, -, -, -, -, -, -, -, -, -, hc, -⟩ := z5; exact hc.1
      obtain ⟨hof, kd, m, h1, h2, h3, h4, h5, -⟩ := id z5
      have hM1 : MS g d 1 σ' (mLeaveR σ' 0) := MS_leave (by omega) r7 (by omega) (by rw [z2]; decide) (fun w1 hS1 Q kk => m_leaveRt hS1 r7 (by omega) k21 (by rw [z2]; decide) kk)
      refine ⟨.int (gI w' 192 f), .int (mA σ' 16 φ), P, O, w', sI (mLeaveR σ' 0) 23 (nI φ), fun Q hQ => f_runOn (by omega) hS hr ra h324 (fun Q2 hQ2 => c_beginYes (by omega) hS hr p2 hcls hS' z3 hof hQ2) hQ, MP_cfr hS hM hCw, fun w1 hS1 Q hQ => m_runStart (by omega) hS1 rb hr h70 ((r1.thn hM1) w1 0 Q hS1 (by omega) (m_runEnd3 hS1 (by omega) rfl z2 z4 (by omega) hQ)), ⟨nI kd, by rw [h4], by rw [h5]⟩, fin _ rfl rfl (fun f f1 f2 f3 f4 f5 => ?_) (Or.inr ⟨f, φ, nf', by omega, z3, by rw [mI_sI, if_pos rfl], z5⟩), by omega, by omega⟩
      unfold mLeaveR; rw [mI_sI, if_neg f1, mI_sI, if_neg f5, mI_sI, if_neg f2]
  · have hpos : (0 : Int32) < nI bs.length := nI_lt (a := 0) (by omega) (by omega)
    exact ⟨.int (-1), .int (-1), P, O, w, σ, fun Q hQ => f_runNo (by omega) hS hr ra (by rw [p4, h7]; exact hpos) hQ, hM, fun w1 hS1 Q hQ => m_runNo hS1 rb hr (by rw [h7]; exact hpos) hQ, ⟨-1, rfl, rfl⟩, hI, by omega, by omega⟩
