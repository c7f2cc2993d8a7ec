set_option maxHeartbeats 4000000 in
set_option maxRecDepth 20000 in
theorem c_stepTired {g : GE} {d : Nat} {w : GW} {Q : Int32 → GW → Prop} {cau : Option Nat} (hd : 4 ≤ d) {q rt cl : Nat} (hS : SK g w) (hq : gOb g w q 7) (hc : gI w 5 (eB g + 1) = nI 200) (k : Q 3 (thrF g w 10 (gI w 453 q) 0 0 (gI w 453 q) (fWeight 10 0 1))) : gMI g d mX0_doStep [.ref (eB g + 1), .ref rt, .ref q, va_rf cau, .int (nI cl)] w Q := by
  refine gMI_of ?_
  have o1 : gOb g w (eB g + 1) 0 := hS.ob 1 rfl
  cases cau with
  | none =>
    refine gM.of (by decide) (Nat.le_of_ble_eq_true rfl) ?_
    refine g_aload_n dX0_doStep_0 rfl ?_
    refine g_callV (d1 := d - 1) (As := []) 0 dX0_doStep_1 vX0_91 (by omega) (by assumption) rfl rfl (Nat.le_of_ble_eq_true rfl) ?_
    refine c_isCounted hS hc (by omega) (fun _ => ?_) (fun z => absurd z (by omega))
    refine g_if_ne 15 dX0_doStep_4 (by decide) (fun q => absurd (rfl) q) (fun _ => ?_)
    refine g_aload_n dX0_doStep_7 rfl ?_
    refine g_bipushV (v := 10) dX0_doStep_8 (by decide) ?_
    refine g_aload_n dX0_doStep_10 rfl ?_
    refine g_callV (d1 := d - 1) (As := [_, _]) 0 dX0_doStep_11 vX0_95 (by omega) (by assumption) rfl rfl (Nat.le_of_ble_eq_true rfl) ?_
    refine c_throwNew (by omega) hS hq (by decide) ?_
    refine g_iret dX0_doStep_14 rfl ?_
    exact ⟨_, rfl, k⟩
  | some cf =>
    refine gM.of (by decide) (Nat.le_of_ble_eq_true rfl) ?_
    refine g_aload_n dX0_doStep_0 rfl ?_
    refine g_callV (d1 := d - 1) (As := []) 0 dX0_doStep_1 vX0_91 (by omega) (by assumption) rfl rfl (Nat.le_of_ble_eq_true rfl) ?_
    refine c_isCounted hS hc (by omega) (fun _ => ?_) (fun z => absurd z (by omega))
    refine g_if_ne 15 dX0_doStep_4 (by decide) (fun q => absurd (rfl) q) (fun _ => ?_)
    refine g_aload_n dX0_doStep_7 rfl ?_
    refine g_bipushV (v := 10) dX0_doStep_8 (by decide) ?_
    refine g_aload_n dX0_doStep_10 rfl ?_
    refine g_callV (d1 := d - 1) (As := [_, _]) 0 dX0_doStep_11 vX0_95 (by omega) (by assumption) rfl rfl (Nat.le_of_ble_eq_true rfl) ?_
    refine c_throwNew (by omega) hS hq (by decide) ?_
    refine g_iret dX0_doStep_14 rfl ?_
    exact ⟨_, rfl, k⟩
set_option maxHeartbeats 4000000 in
set_option maxRecDepth 20000 in
theorem c_stepTry {g : GE} {d : Nat} {w : GW} {Q : Int32 → GW → Prop} {cau : Option Nat} (hd : 4 ≤ d) {q rt cl c : Nat} (hS : SK g w) (hq : gOb g w q 7) (hc : gI w 5 (eB g + 1) = nI c) (hc2 : c < 200) (hw : gI w 448 q = 1) (hM : gMI g (d - 1) mX0_doTry [.ref (eB g + 1), .ref rt, .ref q, va_rf cau, .int (nI cl)] (setI w 5 (eB g + 1) (nI (c + 1))) Q) : gMI g d mX0_doStep [.ref (eB g + 1), .ref rt, .ref q, va_rf cau, .int (nI cl)] w Q := by
  refine gMI_of ?_
  have o1 : gOb g w (eB g + 1) 0 := hS.ob 1 rfl
  have hw1 : gI (setI w 5 (eB g + 1) (nI (c + 1))) 448 q = 1 := hw
  have hS1 : SK g (setI w 5 (eB g + 1) (nI (c + 1))) := hS.setI 5 _ _ (by decide)
  have hq1 : gOb g (setI w 5 (eB g + 1) (nI (c + 1))) q 7 := hq
  cases cau with
  | none =>
    refine gM.of (by decide) (Nat.le_of_ble_eq_true rfl) ?_
    refine g_aload_n dX0_doStep_0 rfl ?_
    refine g_callV (d1 := d - 1) (As := []) 0 dX0_doStep_1 vX0_91 (by omega) (by assumption) rfl rfl (Nat.le_of_ble_eq_true rfl) ?_
    refine c_isCounted hS hc (by omega) (fun z => absurd z (by omega)) (fun _ => ?_)
    refine g_if_ne 15 dX0_doStep_4 (by decide) (fun _ => ?_) (fun q => absurd q (by decide))
    refine g_aload_n dX0_doStep_15 rfl ?_
    refine g_getI 7 0 448 dX0_doStep_16 fX0_99 rfl rfl (by assumption) ?_
    refine g_tableIn (off := 61) 80 dX0_doStep_19 (by rw [hw1]; decide) (by rw [hw1]; decide) (by rw [hw1]; rfl) (by decide) ?_
    refine g_aload_n dX0_doStep_80 rfl ?_
    refine g_aload_n dX0_doStep_81 rfl ?_
    refine g_aload_n dX0_doStep_82 rfl ?_
    refine g_aload_nN dX0_doStep_83 rfl ?_
    refine g_iload dX0_doStep_84 rfl ?_
    refine g_callV (d1 := d - 1) (As := [_, _, _, _]) 0 dX0_doStep_86 vX0_102 (by omega) (by assumption) rfl rfl (Nat.le_of_ble_eq_true rfl) ?_
    refine gM.imp hM (fun rv w9 _ _ hq9 => ?_)
    obtain ⟨-, v, rfl, hq9⟩ := hq9
    refine g_iret dX0_doStep_89 rfl ?_
    exact ⟨v, rfl, hq9⟩
  | some cf =>
    refine gM.of (by decide) (Nat.le_of_ble_eq_true rfl) ?_
    refine g_aload_n dX0_doStep_0 rfl ?_
    refine g_callV (d1 := d - 1) (As := []) 0 dX0_doStep_1 vX0_91 (by omega) (by assumption) rfl rfl (Nat.le_of_ble_eq_true rfl) ?_
    refine c_isCounted hS hc (by omega) (fun z => absurd z (by omega)) (fun _ => ?_)
    refine g_if_ne 15 dX0_doStep_4 (by decide) (fun _ => ?_) (fun q => absurd q (by decide))
    refine g_aload_n dX0_doStep_15 rfl ?_
    refine g_getI 7 0 448 dX0_doStep_16 fX0_99 rfl rfl (by assumption) ?_
    refine g_tableIn (off := 61) 80 dX0_doStep_19 (by rw [hw1]; decide) (by rw [hw1]; decide) (by rw [hw1]; rfl) (by decide) ?_
    refine g_aload_n dX0_doStep_80 rfl ?_
    refine g_aload_n dX0_doStep_81 rfl ?_
    refine g_aload_n dX0_doStep_82 rfl ?_
    refine g_aload_n dX0_doStep_83 rfl ?_
    refine g_iload dX0_doStep_84 rfl ?_
    refine g_callV (d1 := d - 1) (As := [_, _, _, _]) 0 dX0_doStep_86 vX0_102 (by omega) (by assumption) rfl rfl (Nat.le_of_ble_eq_true rfl) ?_
    refine gM.imp hM (fun rv w9 _ _ hq9 => ?_)
    obtain ⟨-, v, rfl, hq9⟩ := hq9
    refine g_iret dX0_doStep_89 rfl ?_
    exact ⟨v, rfl, hq9⟩
set_option maxHeartbeats 4000000 in
set_option maxRecDepth 20000 in
theorem c_stepLoop {g : GE} {d : Nat} {w : GW} {Q : Int32 → GW → Prop} {cau : Option Nat} (hd : 4 ≤ d) {q rt cl c : Nat} (hS : SK g w) (hq : gOb g w q 7) (hc : gI w 5 (eB g + 1) = nI c) (hc2 : c < 200) (hw : gI w 448 q = 4) (hM : gMI g (d - 1) mX0_doLoop [.ref (eB g + 1), .ref rt, .ref q, va_rf cau, .int (nI cl)] (setI w 5 (eB g + 1) (nI (c + 1))) Q) : gMI g d mX0_doStep [.ref (eB g + 1), .ref rt, .ref q, va_rf cau, .int (nI cl)] w Q := by
  refine gMI_of ?_
  have o1 : gOb g w (eB g + 1) 0 := hS.ob 1 rfl
  have hw1 : gI (setI w 5 (eB g + 1) (nI (c + 1))) 448 q = 4 := hw
  have hS1 : SK g (setI w 5 (eB g + 1) (nI (c + 1))) := hS.setI 5 _ _ (by decide)
  have hq1 : gOb g (setI w 5 (eB g + 1) (nI (c + 1))) q 7 := hq
  cases cau with
  | none =>
    refine gM.of (by decide) (Nat.le_of_ble_eq_true rfl) ?_
    refine g_aload_n dX0_doStep_0 rfl ?_
    refine g_callV (d1 := d - 1) (As := []) 0 dX0_doStep_1 vX0_91 (by omega) (by assumption) rfl rfl (Nat.le_of_ble_eq_true rfl) ?_
    refine c_isCounted hS hc (by omega) (fun z => absurd z (by omega)) (fun _ => ?_)
    refine g_if_ne 15 dX0_doStep_4 (by decide) (fun _ => ?_) (fun q => absurd q (by decide))
    refine g_aload_n dX0_doStep_15 rfl ?_
    refine g_getI 7 0 448 dX0_doStep_16 fX0_99 rfl rfl (by assumption) ?_
    refine g_tableIn (off := 71) 90 dX0_doStep_19 (by rw [hw1]; decide) (by rw [hw1]; decide) (by rw [hw1]; rfl) (by decide) ?_
    refine g_aload_n dX0_doStep_90 rfl ?_
    refine g_aload_n dX0_doStep_91 rfl ?_
    refine g_aload_n dX0_doStep_92 rfl ?_
    refine g_aload_nN dX0_doStep_93 rfl ?_
    refine g_iload dX0_doStep_94 rfl ?_
    refine g_callV (d1 := d - 1) (As := [_, _, _, _]) 0 dX0_doStep_96 vX0_105 (by omega) (by assumption) rfl rfl (Nat.le_of_ble_eq_true rfl) ?_
    refine gM.imp hM (fun rv w9 _ _ hq9 => ?_)
    obtain ⟨-, v, rfl, hq9⟩ := hq9
    refine g_iret dX0_doStep_99 rfl ?_
    exact ⟨v, rfl, hq9⟩
  | some cf =>
    refine gM.of (by decide) (Nat.le_of_ble_eq_true rfl) ?_
    refine g_aload_n dX0_doStep_0 rfl ?_
    refine g_callV (d1 := d - 1) (As := []) 0 dX0_doStep_1 vX0_91 (by omega) (by assumption) rfl rfl (Nat.le_of_ble_eq_true rfl) ?_
    refine c_isCounted hS hc (by omega) (fun z => absurd z (by omega)) (fun _ => ?_)
    refine g_if_ne 15 dX0_doStep_4 (by decide) (fun _ => ?_) (fun q => absurd q (by decide))
    refine g_aload_n dX0_doStep_15 rfl ?_
    refine g_getI 7 0 448 dX0_doStep_16 fX0_99 rfl rfl (by assumption) ?_
    refine g_tableIn (off := 71) 90 dX0_doStep_19 (by rw [hw1]; decide) (by rw [hw1]; decide) (by rw [hw1]; rfl) (by decide) ?_
    refine g_aload_n dX0_doStep_90 rfl ?_
    refine g_aload_n dX0_doStep_91 rfl ?_
    refine g_aload_n dX0_doStep_92 rfl ?_
    refine g_aload_n dX0_doStep_93 rfl ?_
    refine g_iload dX0_doStep_94 rfl ?_
    refine g_callV (d1 := d - 1) (As := [_, _, _, _]) 0 dX0_doStep_96 vX0_105 (by omega) (by assumption) rfl rfl (Nat.le_of_ble_eq_true rfl) ?_
    refine gM.imp hM (fun rv w9 _ _ hq9 => ?_)
    obtain ⟨-, v, rfl, hq9⟩ := hq9
    refine g_iret dX0_doStep_99 rfl ?_
    exact ⟨v, rfl, hq9⟩
set_option maxHeartbeats 4000000 in
set_option maxRecDepth 20000 in
theorem c_stepCall {g : GE} {d : Nat} {w : GW} {Q : Int32 → GW → Prop} {cau : Option Nat} (hd : 4 ≤ d) {q rt cl c : Nat} (hS : SK g w) (hq : gOb g w q 7) (hc : gI w 5 (eB g + 1) = nI c) (hc2 : c < 200) (hw : gI w 448 q = 12) (hM : gMI g (d - 1) mX0_doCall [.ref (eB g + 1), .ref q, .int (nI cl)] (setI w 5 (eB g + 1) (nI (c + 1))) Q) : gMI g d mX0_doStep [.ref (eB g + 1), .ref rt, .ref q, va_rf cau, .int (nI cl)] w Q := by
  refine gMI_of ?_
  have o1 : gOb g w (eB g + 1) 0 := hS.ob 1 rfl
  have hw1 : gI (setI w 5 (eB g + 1) (nI (c + 1))) 448 q = 12 := hw
  have hS1 : SK g (setI w 5 (eB g + 1) (nI (c + 1))) := hS.setI 5 _ _ (by decide)
  have hq1 : gOb g (setI w 5 (eB g + 1) (nI (c + 1))) q 7 := hq
  cases cau with
  | none =>
    refine gM.of (by decide) (Nat.le_of_ble_eq_true rfl) ?_
    refine g_aload_n dX0_doStep_0 rfl ?_
    refine g_callV (d1 := d - 1) (As := []) 0 dX0_doStep_1 vX0_91 (by omega) (by assumption) rfl rfl (Nat.le_of_ble_eq_true rfl) ?_
    refine c_isCounted hS hc (by omega) (fun z => absurd z (by omega)) (fun _ => ?_)
    refine g_if_ne 15 dX0_doStep_4 (by decide) (fun _ => ?_) (fun q => absurd q (by decide))
    refine g_aload_n dX0_doStep_15 rfl ?_
    refine g_getI 7 0 448 dX0_doStep_16 fX0_99 rfl rfl (by assumption) ?_
    refine g_tableIn (off := 103) 122 dX0_doStep_19 (by rw [hw1]; decide) (by rw [hw1]; decide) (by rw [hw1]; rfl) (by decide) ?_
    refine g_aload_n dX0_doStep_122 rfl ?_
    refine g_aload_n dX0_doStep_123 rfl ?_
    refine g_iload dX0_doStep_124 rfl ?_
    refine g_callV (d1 := d - 1) (As := [_, _]) 0 dX0_doStep_126 vX0_115 (by omega) (by assumption) rfl rfl (Nat.le_of_ble_eq_true rfl) ?_
    refine gM.imp hM (fun rv w9 _ _ hq9 => ?_)
    obtain ⟨-, v, rfl, hq9⟩ := hq9
    refine g_iret dX0_doStep_129 rfl ?_
    exact ⟨v, rfl, hq9⟩
  | some cf =>
    refine gM.of (by decide) (Nat.le_of_ble_eq_true rfl) ?_
    refine g_aload_n dX0_doStep_0 rfl ?_
    refine g_callV (d1 := d - 1) (As := []) 0 dX0_doStep_1 vX0_91 (by omega) (by assumption) rfl rfl (Nat.le_of_ble_eq_true rfl) ?_
    refine c_isCounted hS hc (by omega) (fun z => absurd z (by omega)) (fun _ => ?_)
    refine g_if_ne 15 dX0_doStep_4 (by decide) (fun _ => ?_) (fun q => absurd q (by decide))
    refine g_aload_n dX0_doStep_15 rfl ?_
    refine g_getI 7 0 448 dX0_doStep_16 fX0_99 rfl rfl (by assumption) ?_
    refine g_tableIn (off := 103) 122 dX0_doStep_19 (by rw [hw1]; decide) (by rw [hw1]; decide) (by rw [hw1]; rfl) (by decide) ?_
    refine g_aload_n dX0_doStep_122 rfl ?_
    refine g_aload_n dX0_doStep_123 rfl ?_
    refine g_iload dX0_doStep_124 rfl ?_
    refine g_callV (d1 := d - 1) (As := [_, _]) 0 dX0_doStep_126 vX0_115 (by omega) (by assumption) rfl rfl (Nat.le_of_ble_eq_true rfl) ?_
    refine gM.imp hM (fun rv w9 _ _ hq9 => ?_)
    obtain ⟨-, v, rfl, hq9⟩ := hq9
    refine g_iret dX0_doStep_129 rfl ?_
    exact ⟨v, rfl, hq9⟩
set_option maxHeartbeats 4000000 in
set_option maxRecDepth 20000 in
theorem c_stepLeave {g : GE} {d : Nat} {w : GW} {Q : Int32 → GW → Prop} {cau : Option Nat} (hd : 4 ≤ d) {q rt cl c : Nat} (hS : SK g w) (hq : gOb g w q 7) (hc : gI w 5 (eB g + 1) = nI c) (hc2 : c < 200) (hw : gI w 448 q = 5) (k : Q 1 (setI w 5 (eB g + 1) (nI (c + 1)))) : gMI g d mX0_doStep [.ref (eB g + 1), .ref rt, .ref q, va_rf cau, .int (nI cl)] w Q := by
  refine gMI_of ?_
  have o1 : gOb g w (eB g + 1) 0 := hS.ob 1 rfl
  have hw1 : gI (setI w 5 (eB g + 1) (nI (c + 1))) 448 q = 5 := hw
  have hS1 : SK g (setI w 5 (eB g + 1) (nI (c + 1))) := hS.setI 5 _ _ (by decide)
  have hq1 : gOb g (setI w 5 (eB g + 1) (nI (c + 1))) q 7 := hq
  cases cau with
  | none =>
    refine gM.of (by decide) (Nat.le_of_ble_eq_true rfl) ?_
    refine g_aload_n dX0_doStep_0 rfl ?_
    refine g_callV (d1 := d - 1) (As := []) 0 dX0_doStep_1 vX0_91 (by omega) (by assumption) rfl rfl (Nat.le_of_ble_eq_true rfl) ?_
    refine c_isCounted hS hc (by omega) (fun z => absurd z (by omega)) (fun _ => ?_)
    refine g_if_ne 15 dX0_doStep_4 (by decide) (fun _ => ?_) (fun q => absurd q (by decide))
    refine g_aload_n dX0_doStep_15 rfl ?_
    refine g_getI 7 0 448 dX0_doStep_16 fX0_99 rfl rfl (by assumption) ?_
    refine g_tableIn (off := 111) 130 dX0_doStep_19 (by rw [hw1]; decide) (by rw [hw1]; decide) (by rw [hw1]; rfl) (by decide) ?_
    refine g_iconstV (v := 1) dX0_doStep_130 (by decide) ?_
    refine g_iret dX0_doStep_131 rfl ?_
    exact ⟨_, rfl, k⟩
  | some cf =>
    refine gM.of (by decide) (Nat.le_of_ble_eq_true rfl) ?_
    refine g_aload_n dX0_doStep_0 rfl ?_
    refine g_callV (d1 := d - 1) (As := []) 0 dX0_doStep_1 vX0_91 (by omega) (by assumption) rfl rfl (Nat.le_of_ble_eq_true rfl) ?_
    refine c_isCounted hS hc (by omega) (fun z => absurd z (by omega)) (fun _ => ?_)
    refine g_if_ne 15 dX0_doStep_4 (by decide) (fun _ => ?_) (fun q => absurd q (by decide))
    refine g_aload_n dX0_doStep_15 rfl ?_
    refine g_getI 7 0 448 dX0_doStep_16 fX0_99 rfl rfl (by assumption) ?_
    refine g_tableIn (off := 111) 130 dX0_doStep_19 (by rw [hw1]; decide) (by rw [hw1]; decide) (by rw [hw1]; rfl) (by decide) ?_
    refine g_iconstV (v := 1) dX0_doStep_130 (by decide) ?_
    refine g_iret dX0_doStep_131 rfl ?_
    exact ⟨_, rfl, k⟩
set_option maxHeartbeats 4000000 in
set_option maxRecDepth 20000 in
theorem c_stepReturn {g : GE} {d : Nat} {w : GW} {Q : Int32 → GW → Prop} {cau : Option Nat} (hd : 4 ≤ d) {q rt cl c : Nat} (hS : SK g w) (hq : gOb g w q 7) (hc : gI w 5 (eB g + 1) = nI c) (hc2 : c < 200) (hw : gI w 448 q = 6) (k : Q 2 (setI w 5 (eB g + 1) (nI (c + 1)))) : gMI g d mX0_doStep [.ref (eB g + 1), .ref rt, .ref q, va_rf cau, .int (nI cl)] w Q := by
  refine gMI_of ?_
  have o1 : gOb g w (eB g + 1) 0 := hS.ob 1 rfl
  have hw1 : gI (setI w 5 (eB g + 1) (nI (c + 1))) 448 q = 6 := hw
  have hS1 : SK g (setI w 5 (eB g + 1) (nI (c + 1))) := hS.setI 5 _ _ (by decide)
  have hq1 : gOb g (setI w 5 (eB g + 1) (nI (c + 1))) q 7 := hq
  cases cau with
  | none =>
    refine gM.of (by decide) (Nat.le_of_ble_eq_true rfl) ?_
    refine g_aload_n dX0_doStep_0 rfl ?_
    refine g_callV (d1 := d - 1) (As := []) 0 dX0_doStep_1 vX0_91 (by omega) (by assumption) rfl rfl (Nat.le_of_ble_eq_true rfl) ?_
    refine c_isCounted hS hc (by omega) (fun z => absurd z (by omega)) (fun _ => ?_)
    refine g_if_ne 15 dX0_doStep_4 (by decide) (fun _ => ?_) (fun q => absurd q (by decide))
    refine g_aload_n dX0_doStep_15 rfl ?_
    refine g_getI 7 0 448 dX0_doStep_16 fX0_99 rfl rfl (by assumption) ?_
    refine g_tableIn (off := 113) 132 dX0_doStep_19 (by rw [hw1]; decide) (by rw [hw1]; decide) (by rw [hw1]; rfl) (by decide) ?_
    refine g_iconstV (v := 2) dX0_doStep_132 (by decide) ?_
    refine g_iret dX0_doStep_133 rfl ?_
    exact ⟨_, rfl, k⟩
  | some cf =>
    refine gM.of (by decide) (Nat.le_of_ble_eq_true rfl) ?_
    refine g_aload_n dX0_doStep_0 rfl ?_
    refine g_callV (d1 := d - 1) (As := []) 0 dX0_doStep_1 vX0_91 (by omega) (by assumption) rfl rfl (Nat.le_of_ble_eq_true rfl) ?_
    refine c_isCounted hS hc (by omega) (fun z => absurd z (by omega)) (fun _ => ?_)
    refine g_if_ne 15 dX0_doStep_4 (by decide) (fun _ => ?_) (fun q => absurd q (by decide))
    refine g_aload_n dX0_doStep_15 rfl ?_
    refine g_getI 7 0 448 dX0_doStep_16 fX0_99 rfl rfl (by assumption) ?_
    refine g_tableIn (off := 113) 132 dX0_doStep_19 (by rw [hw1]; decide) (by rw [hw1]; decide) (by rw [hw1]; rfl) (by decide) ?_
    refine g_iconstV (v := 2) dX0_doStep_132 (by decide) ?_
    refine g_iret dX0_doStep_133 rfl ?_
    exact ⟨_, rfl, k⟩
set_option maxHeartbeats 4000000 in
set_option maxRecDepth 20000 in
theorem c_stepIfOff {g : GE} {d : Nat} {w : GW} {Q : Int32 → GW → Prop} {cau : Option Nat} (hd : 4 ≤ d) {q rt cl c : Nat} (hS : SK g w) (hq : gOb g w q 7) (hc : gI w 5 (eB g + 1) = nI c) (hc2 : c < 200) (hw : gI w 448 q = 11) {a c9 : Nat} (ha : gI w 449 q = nI a) (ha2 : a < 8) (hc9 : gI w 451 q = nI c9) (hc92 : c9 < 8) (hnn : FP.dcmp (gD w (eB g + 67) a) (gD w (eB g + 67) c9) ≠ none) (hso : fSo (gI w 450 q) (gD w (eB g + 67) a) (gD w (eB g + 67) c9) = 0) (k : Q 0 (setI w 5 (eB g + 1) (nI (c + 1)))) : gMI g d mX0_doStep [.ref (eB g + 1), .ref rt, .ref q, va_rf cau, .int (nI cl)] w Q := by
  refine gMI_of ?_
  have o1 : gOb g w (eB g + 1) 0 := hS.ob 1 rfl
  have hw1 : gI (setI w 5 (eB g + 1) (nI (c + 1))) 448 q = 11 := hw
  have hS1 : SK g (setI w 5 (eB g + 1) (nI (c + 1))) := hS.setI 5 _ _ (by decide)
  have hq1 : gOb g (setI w 5 (eB g + 1) (nI (c + 1))) q 7 := hq
  cases cau with
  | none =>
    refine gM.of (by decide) (Nat.le_of_ble_eq_true rfl) ?_
    refine g_aload_n dX0_doStep_0 rfl ?_
    refine g_callV (d1 := d - 1) (As := []) 0 dX0_doStep_1 vX0_91 (by omega) (by assumption) rfl rfl (Nat.le_of_ble_eq_true rfl) ?_
    refine c_isCounted hS hc (by omega) (fun z => absurd z (by omega)) (fun _ => ?_)
    refine g_if_ne 15 dX0_doStep_4 (by decide) (fun _ => ?_) (fun q => absurd q (by decide))
    refine g_aload_n dX0_doStep_15 rfl ?_
    refine g_getI 7 0 448 dX0_doStep_16 fX0_99 rfl rfl (by assumption) ?_
    refine g_tableIn (off := 81) 100 dX0_doStep_19 (by rw [hw1]; decide) (by rw [hw1]; decide) (by rw [hw1]; rfl) (by decide) ?_
    refine g_aload_n dX0_doStep_100 rfl ?_
    refine g_aload_n dX0_doStep_101 rfl ?_
    refine g_callV (d1 := d - 1) (As := [_]) 0 dX0_doStep_102 vX0_108 (by omega) (by assumption) rfl rfl (Nat.le_of_ble_eq_true rfl) ?_
    refine c_isSo (by omega) hS1 hq1 (a := a) (c := c9) ha ha2 hc9 hc92 hnn ?_
    refine g_if_eq 120 dX0_doStep_105 (by decide) (fun _ => ?_) (fun q => absurd (hso) q)
    refine g_iconstV (v := 0) dX0_doStep_120 (by decide) ?_
    refine g_iret dX0_doStep_121 rfl ?_
    exact ⟨_, rfl, k⟩
  | some cf =>
    refine gM.of (by decide) (Nat.le_of_ble_eq_true rfl) ?_
    refine g_aload_n dX0_doStep_0 rfl ?_
    refine g_callV (d1 := d - 1) (As := []) 0 dX0_doStep_1 vX0_91 (by omega) (by assumption) rfl rfl (Nat.le_of_ble_eq_true rfl) ?_
    refine c_isCounted hS hc (by omega) (fun z => absurd z (by omega)) (fun _ => ?_)
    refine g_if_ne 15 dX0_doStep_4 (by decide) (fun _ => ?_) (fun q => absurd q (by decide))
    refine g_aload_n dX0_doStep_15 rfl ?_
    refine g_getI 7 0 448 dX0_doStep_16 fX0_99 rfl rfl (by assumption) ?_
    refine g_tableIn (off := 81) 100 dX0_doStep_19 (by rw [hw1]; decide) (by rw [hw1]; decide) (by rw [hw1]; rfl) (by decide) ?_
    refine g_aload_n dX0_doStep_100 rfl ?_
    refine g_aload_n dX0_doStep_101 rfl ?_
    refine g_callV (d1 := d - 1) (As := [_]) 0 dX0_doStep_102 vX0_108 (by omega) (by assumption) rfl rfl (Nat.le_of_ble_eq_true rfl) ?_
    refine c_isSo (by omega) hS1 hq1 (a := a) (c := c9) ha ha2 hc9 hc92 hnn ?_
    refine g_if_eq 120 dX0_doStep_105 (by decide) (fun _ => ?_) (fun q => absurd (hso) q)
    refine g_iconstV (v := 0) dX0_doStep_120 (by decide) ?_
    refine g_iret dX0_doStep_121 rfl ?_
    exact ⟨_, rfl, k⟩
set_option maxHeartbeats 4000000 in
set_option maxRecDepth 20000 in
theorem c_stepIfOn {g : GE} {d : Nat} {w : GW} {Q : Int32 → GW → Prop} {cau : Option Nat} (hd : 4 ≤ d) {q rt cl c : Nat} (hS : SK g w) (hq : gOb g w q 7) (hc : gI w 5 (eB g + 1) = nI c) (hc2 : c < 200) (hw : gI w 448 q = 11) {a c9 : Nat} (ha : gI w 449 q = nI a) (ha2 : a < 8) (hc9 : gI w 451 q = nI c9) (hc92 : c9 < 8) (hnn : FP.dcmp (gD w (eB g + 67) a) (gD w (eB g + 67) c9) ≠ none) (hso : fSo (gI w 450 q) (gD w (eB g + 67) a) (gD w (eB g + 67) c9) = 1) (hM : gMI g (d - 1) mX0_doPart [.ref (eB g + 1), .ref rt, .ref q, va_rf cau, .int (nI cl)] (setI w 5 (eB g + 1) (nI (c + 1))) Q) : gMI g d mX0_doStep [.ref (eB g + 1), .ref rt, .ref q, va_rf cau, .int (nI cl)] w Q := by
  refine gMI_of ?_
  have o1 : gOb g w (eB g + 1) 0 := hS.ob 1 rfl
  have hw1 : gI (setI w 5 (eB g + 1) (nI (c + 1))) 448 q = 11 := hw
  have hS1 : SK g (setI w 5 (eB g + 1) (nI (c + 1))) := hS.setI 5 _ _ (by decide)
  have hq1 : gOb g (setI w 5 (eB g + 1) (nI (c + 1))) q 7 := hq
  have hso1 : ¬ fSo (gI w 450 q) (gD w (eB g + 67) a) (gD w (eB g + 67) c9) = 0 := by rw [hso]; decide
  cases cau with
  | none =>
    refine gM.of (by decide) (Nat.le_of_ble_eq_true rfl) ?_
    refine g_aload_n dX0_doStep_0 rfl ?_
    refine g_callV (d1 := d - 1) (As := []) 0 dX0_doStep_1 vX0_91 (by omega) (by assumption) rfl rfl (Nat.le_of_ble_eq_true rfl) ?_
    refine c_isCounted hS hc (by omega) (fun z => absurd z (by omega)) (fun _ => ?_)
    refine g_if_ne 15 dX0_doStep_4 (by decide) (fun _ => ?_) (fun q => absurd q (by decide))
    refine g_aload_n dX0_doStep_15 rfl ?_
    refine g_getI 7 0 448 dX0_doStep_16 fX0_99 rfl rfl (by assumption) ?_
    refine g_tableIn (off := 81) 100 dX0_doStep_19 (by rw [hw1]; decide) (by rw [hw1]; decide) (by rw [hw1]; rfl) (by decide) ?_
    refine g_aload_n dX0_doStep_100 rfl ?_
    refine g_aload_n dX0_doStep_101 rfl ?_
    refine g_callV (d1 := d - 1) (As := [_]) 0 dX0_doStep_102 vX0_108 (by omega) (by assumption) rfl rfl (Nat.le_of_ble_eq_true rfl) ?_
    refine c_isSo (by omega) hS1 hq1 (a := a) (c := c9) ha ha2 hc9 hc92 hnn ?_
    refine g_if_eq 120 dX0_doStep_105 (by decide) (fun q => absurd q (hso1)) (fun _ => ?_)
    refine g_aload_n dX0_doStep_108 rfl ?_
    refine g_aload_n dX0_doStep_109 rfl ?_
    refine g_aload_n dX0_doStep_110 rfl ?_
    refine g_aload_nN dX0_doStep_111 rfl ?_
    refine g_iload dX0_doStep_112 rfl ?_
    refine g_callV (d1 := d - 1) (As := [_, _, _, _]) 0 dX0_doStep_114 vX0_112 (by omega) (by assumption) rfl rfl (Nat.le_of_ble_eq_true rfl) ?_
    refine gM.imp hM (fun rv w9 _ _ hq9 => ?_)
    obtain ⟨-, v, rfl, hq9⟩ := hq9
    refine g_goto 121 dX0_doStep_117 (by decide) ?_
    refine g_iret dX0_doStep_121 rfl ?_
    exact ⟨v, rfl, hq9⟩
  | some cf =>
    refine gM.of (by decide) (Nat.le_of_ble_eq_true rfl) ?_
    refine g_aload_n dX0_doStep_0 rfl ?_
    refine g_callV (d1 := d - 1) (As := []) 0 dX0_doStep_1 vX0_91 (by omega) (by assumption) rfl rfl (Nat.le_of_ble_eq_true rfl) ?_
    refine c_isCounted hS hc (by omega) (fun z => absurd z (by omega)) (fun _ => ?_)
    refine g_if_ne 15 dX0_doStep_4 (by decide) (fun _ => ?_) (fun q => absurd q (by decide))
    refine g_aload_n dX0_doStep_15 rfl ?_
    refine g_getI 7 0 448 dX0_doStep_16 fX0_99 rfl rfl (by assumption) ?_
    refine g_tableIn (off := 81) 100 dX0_doStep_19 (by rw [hw1]; decide) (by rw [hw1]; decide) (by rw [hw1]; rfl) (by decide) ?_
    refine g_aload_n dX0_doStep_100 rfl ?_
    refine g_aload_n dX0_doStep_101 rfl ?_
    refine g_callV (d1 := d - 1) (As := [_]) 0 dX0_doStep_102 vX0_108 (by omega) (by assumption) rfl rfl (Nat.le_of_ble_eq_true rfl) ?_
    refine c_isSo (by omega) hS1 hq1 (a := a) (c := c9) ha ha2 hc9 hc92 hnn ?_
    refine g_if_eq 120 dX0_doStep_105 (by decide) (fun q => absurd q (hso1)) (fun _ => ?_)
    refine g_aload_n dX0_doStep_108 rfl ?_
    refine g_aload_n dX0_doStep_109 rfl ?_
    refine g_aload_n dX0_doStep_110 rfl ?_
    refine g_aload_n dX0_doStep_111 rfl ?_
    refine g_iload dX0_doStep_112 rfl ?_
    refine g_callV (d1 := d - 1) (As := [_, _, _, _]) 0 dX0_doStep_114 vX0_112 (by omega) (by assumption) rfl rfl (Nat.le_of_ble_eq_true rfl) ?_
    refine gM.imp hM (fun rv w9 _ _ hq9 => ?_)
    obtain ⟨-, v, rfl, hq9⟩ := hq9
    refine g_goto 121 dX0_doStep_117 (by decide) ?_
    refine g_iret dX0_doStep_121 rfl ?_
    exact ⟨v, rfl, hq9⟩
set_option maxHeartbeats 4000000 in
set_option maxRecDepth 20000 in
theorem c_stepThrow {g : GE} {d : Nat} {w : GW} {Q : Int32 → GW → Prop} {cau : Option Nat} (hd : 4 ≤ d) {q rt cl c : Nat} (hS : SK g w) (hq : gOb g w q 7) (hc : gI w 5 (eB g + 1) = nI c) (hc2 : c < 200) (hw : gI w 448 q = 7) (k : Q 3 (thrF g (setI w 5 (eB g + 1) (nI (c + 1))) 9 (gI w 453 q) (gI w 449 q) 0 (gI w 453 q) (fWeight 9 (gI w 449 q) 1))) : gMI g d mX0_doStep [.ref (eB g + 1), .ref rt, .ref q, va_rf cau, .int (nI cl)] w Q := by
  refine gMI_of ?_
  have o1 : gOb g w (eB g + 1) 0 := hS.ob 1 rfl
  have hw1 : gI (setI w 5 (eB g + 1) (nI (c + 1))) 448 q = 7 := hw
  have hS1 : SK g (setI w 5 (eB g + 1) (nI (c + 1))) := hS.setI 5 _ _ (by decide)
  have hq1 : gOb g (setI w 5 (eB g + 1) (nI (c + 1))) q 7 := hq
  have hB : eB g ≤ gN (setI w 5 (eB g + 1) (nI (c + 1))) := by have := hS.1; show eB g ≤ gN w; omega
  have hq2 := gOb_newO (c := 3) (N := 6) hq1
  have eq2 : ∀ x, gI (newO (setI w 5 (eB g + 1) (nI (c + 1))) 3 6) x q = gI (setI w 5 (eB g + 1) (nI (c + 1))) x q := fun x => by rw [gI_newO, nul2, if_neg (Nat.ne_of_lt hq1.2.1)]
  have hs2 := hS1.newO 3 6
  have ha := gOb_selfO (g := g) (ci := 3) (N := 6) hB
  have o12 := hs2.ob 1 rfl
  cases cau with
  | none =>
    refine gM.of (by decide) (Nat.le_of_ble_eq_true rfl) ?_
    refine g_aload_n dX0_doStep_0 rfl ?_
    refine g_callV (d1 := d - 1) (As := []) 0 dX0_doStep_1 vX0_91 (by omega) (by assumption) rfl rfl (Nat.le_of_ble_eq_true rfl) ?_
    refine c_isCounted hS hc (by omega) (fun z => absurd z (by omega)) (fun _ => ?_)
    refine g_if_ne 15 dX0_doStep_4 (by decide) (fun _ => ?_) (fun q => absurd q (by decide))
    refine g_aload_n dX0_doStep_15 rfl ?_
    refine g_getI 7 0 448 dX0_doStep_16 fX0_99 rfl rfl (by assumption) ?_
    refine g_tableIn (off := 115) 134 dX0_doStep_19 (by rw [hw1]; decide) (by rw [hw1]; decide) (by rw [hw1]; rfl) (by decide) ?_
    refine g_aload_n dX0_doStep_134 rfl ?_
    refine g_new 3 6 dX0_doStep_135 nX0_68 rfl ?_
    refine g_dup dX0_doStep_138 rfl ?_
    refine g_bipushV (v := 9) dX0_doStep_139 (by decide) ?_
    refine g_aload_n dX0_doStep_141 rfl ?_
    refine g_getI 7 5 453 dX0_doStep_142 fX0_119 rfl rfl hq2 ?_
    rw [eq2, show gI (setI w 5 (eB g + 1) (nI (c + 1))) 453 q = gI w 453 q from rfl]
    refine g_aload_n dX0_doStep_145 rfl ?_
    refine g_getI 7 1 449 dX0_doStep_146 fX0_122 rfl rfl hq2 ?_
    rw [eq2, show gI (setI w 5 (eB g + 1) (nI (c + 1))) 449 q = gI w 449 q from rfl]
    refine g_null dX0_doStep_149 ?_
    refine g_callI (d1 := d - 1) (As := [_, _, _, _]) dX0_doStep_150 iX0_125 (by omega) rfl rfl (Nat.le_of_ble_eq_true rfl) ?_
    refine c_Fault0 (by omega) ha ?_
    refine g_callV (d1 := d - 1) (As := [_]) 0 dX0_doStep_153 vX0_128 (by omega) (by assumption) rfl rfl (Nat.le_of_ble_eq_true rfl) ?_
    refine c_leaveBy hs2.setF ?_
    refine g_iret dX0_doStep_156 rfl ?_
    exact ⟨_, rfl, k⟩
  | some cf =>
    refine gM.of (by decide) (Nat.le_of_ble_eq_true rfl) ?_
    refine g_aload_n dX0_doStep_0 rfl ?_
    refine g_callV (d1 := d - 1) (As := []) 0 dX0_doStep_1 vX0_91 (by omega) (by assumption) rfl rfl (Nat.le_of_ble_eq_true rfl) ?_
    refine c_isCounted hS hc (by omega) (fun z => absurd z (by omega)) (fun _ => ?_)
    refine g_if_ne 15 dX0_doStep_4 (by decide) (fun _ => ?_) (fun q => absurd q (by decide))
    refine g_aload_n dX0_doStep_15 rfl ?_
    refine g_getI 7 0 448 dX0_doStep_16 fX0_99 rfl rfl (by assumption) ?_
    refine g_tableIn (off := 115) 134 dX0_doStep_19 (by rw [hw1]; decide) (by rw [hw1]; decide) (by rw [hw1]; rfl) (by decide) ?_
    refine g_aload_n dX0_doStep_134 rfl ?_
    refine g_new 3 6 dX0_doStep_135 nX0_68 rfl ?_
    refine g_dup dX0_doStep_138 rfl ?_
    refine g_bipushV (v := 9) dX0_doStep_139 (by decide) ?_
    refine g_aload_n dX0_doStep_141 rfl ?_
    refine g_getI 7 5 453 dX0_doStep_142 fX0_119 rfl rfl hq2 ?_
    rw [eq2, show gI (setI w 5 (eB g + 1) (nI (c + 1))) 453 q = gI w 453 q from rfl]
    refine g_aload_n dX0_doStep_145 rfl ?_
    refine g_getI 7 1 449 dX0_doStep_146 fX0_122 rfl rfl hq2 ?_
    rw [eq2, show gI (setI w 5 (eB g + 1) (nI (c + 1))) 449 q = gI w 449 q from rfl]
    refine g_null dX0_doStep_149 ?_
    refine g_callI (d1 := d - 1) (As := [_, _, _, _]) dX0_doStep_150 iX0_125 (by omega) rfl rfl (Nat.le_of_ble_eq_true rfl) ?_
    refine c_Fault0 (by omega) ha ?_
    refine g_callV (d1 := d - 1) (As := [_]) 0 dX0_doStep_153 vX0_128 (by omega) (by assumption) rfl rfl (Nat.le_of_ble_eq_true rfl) ?_
    refine c_leaveBy hs2.setF ?_
    refine g_iret dX0_doStep_156 rfl ?_
    exact ⟨_, rfl, k⟩
set_option maxHeartbeats 4000000 in
set_option maxRecDepth 20000 in
theorem c_stepAgain {g : GE} {d : Nat} {w : GW} {Q : Int32 → GW → Prop} (hd : 4 ≤ d) {q rt cl c : Nat} (hS : SK g w) (hq : gOb g w q 7) (hc : gI w 5 (eB g + 1) = nI c) (hc2 : c < 200) (hw : gI w 448 q = 8) {f : Nat} {v9 : Int32} {w9 : GW} (hM : Ans g (d - 1) mX0_useCaught [.ref (eB g + 1), .ref q, .ref f] (setI w 5 (eB g + 1) (nI (c + 1))) (some (.int v9)) w9) (k : Q v9 w9) : gMI g d mX0_doStep [.ref (eB g + 1), .ref rt, .ref q, .ref f, .int (nI cl)] w Q := by
  refine gMI_of ?_
  have o1 : gOb g w (eB g + 1) 0 := hS.ob 1 rfl
  have hw1 : gI (setI w 5 (eB g + 1) (nI (c + 1))) 448 q = 8 := hw
  have hS1 : SK g (setI w 5 (eB g + 1) (nI (c + 1))) := hS.setI 5 _ _ (by decide)
  have hq1 : gOb g (setI w 5 (eB g + 1) (nI (c + 1))) q 7 := hq
  refine gM.of (by decide) (Nat.le_of_ble_eq_true rfl) ?_
  refine g_aload_n dX0_doStep_0 rfl ?_
  refine g_callV (d1 := d - 1) (As := []) 0 dX0_doStep_1 vX0_91 (by omega) (by assumption) rfl rfl (Nat.le_of_ble_eq_true rfl) ?_
  refine c_isCounted hS hc (by omega) (fun z => absurd z (by omega)) (fun _ => ?_)
  refine g_if_ne 15 dX0_doStep_4 (by decide) (fun _ => ?_) (fun q => absurd q (by decide))
  refine g_aload_n dX0_doStep_15 rfl ?_
  refine g_getI 7 0 448 dX0_doStep_16 fX0_99 rfl rfl (by assumption) ?_
  refine g_tableIn (off := 138) 157 dX0_doStep_19 (by rw [hw1]; decide) (by rw [hw1]; decide) (by rw [hw1]; rfl) (by decide) ?_
  refine g_aload_n dX0_doStep_157 rfl ?_
  refine g_ifnonnull 165 dX0_doStep_158 (by decide) ?_
  refine g_aload_n dX0_doStep_165 rfl ?_
  refine g_aload_n dX0_doStep_166 rfl ?_
  refine g_aload_n dX0_doStep_167 rfl ?_
  refine g_callV (d1 := d - 1) (As := [_, _]) 0 dX0_doStep_168 vX0_132 (by omega) (by assumption) rfl rfl (Nat.le_of_ble_eq_true rfl) ?_
  refine hM _ ?_
  refine g_iret dX0_doStep_171 rfl ?_
  exact ⟨_, rfl, k⟩
set_option maxHeartbeats 4000000 in
set_option maxRecDepth 20000 in
theorem c_stepWrap {g : GE} {d : Nat} {w : GW} {Q : Int32 → GW → Prop} (hd : 4 ≤ d) {q rt cl c : Nat} (hS : SK g w) (hq : gOb g w q 7) (hc : gI w 5 (eB g + 1) = nI c) (hc2 : c < 200) (hw : gI w 448 q = 9) {f : Nat} {v9 : Int32} {w9 : GW} (hM : Ans g (d - 1) mX0_useCaught [.ref (eB g + 1), .ref q, .ref f] (setI w 5 (eB g + 1) (nI (c + 1))) (some (.int v9)) w9) (k : Q v9 w9) : gMI g d mX0_doStep [.ref (eB g + 1), .ref rt, .ref q, .ref f, .int (nI cl)] w Q := by
  refine gMI_of ?_
  have o1 : gOb g w (eB g + 1) 0 := hS.ob 1 rfl
  have hw1 : gI (setI w 5 (eB g + 1) (nI (c + 1))) 448 q = 9 := hw
  have hS1 : SK g (setI w 5 (eB g + 1) (nI (c + 1))) := hS.setI 5 _ _ (by decide)
  have hq1 : gOb g (setI w 5 (eB g + 1) (nI (c + 1))) q 7 := hq
  refine gM.of (by decide) (Nat.le_of_ble_eq_true rfl) ?_
  refine g_aload_n dX0_doStep_0 rfl ?_
  refine g_callV (d1 := d - 1) (As := []) 0 dX0_doStep_1 vX0_91 (by omega) (by assumption) rfl rfl (Nat.le_of_ble_eq_true rfl) ?_
  refine c_isCounted hS hc (by omega) (fun z => absurd z (by omega)) (fun _ => ?_)
  refine g_if_ne 15 dX0_doStep_4 (by decide) (fun _ => ?_) (fun q => absurd q (by decide))
  refine g_aload_n dX0_doStep_15 rfl ?_
  refine g_getI 7 0 448 dX0_doStep_16 fX0_99 rfl rfl (by assumption) ?_
  refine g_tableIn (off := 138) 157 dX0_doStep_19 (by rw [hw1]; decide) (by rw [hw1]; decide) (by rw [hw1]; rfl) (by decide) ?_
  refine g_aload_n dX0_doStep_157 rfl ?_
  refine g_ifnonnull 165 dX0_doStep_158 (by decide) ?_
  refine g_aload_n dX0_doStep_165 rfl ?_
  refine g_aload_n dX0_doStep_166 rfl ?_
  refine g_aload_n dX0_doStep_167 rfl ?_
  refine g_callV (d1 := d - 1) (As := [_, _]) 0 dX0_doStep_168 vX0_132 (by omega) (by assumption) rfl rfl (Nat.le_of_ble_eq_true rfl) ?_
  refine hM _ ?_
  refine g_iret dX0_doStep_171 rfl ?_
  exact ⟨_, rfl, k⟩
set_option maxHeartbeats 4000000 in
set_option maxRecDepth 20000 in
theorem c_stepTell {g : GE} {d : Nat} {w : GW} {Q : Int32 → GW → Prop} (hd : 4 ≤ d) {q rt cl c : Nat} (hS : SK g w) (hq : gOb g w q 7) (hc : gI w 5 (eB g + 1) = nI c) (hc2 : c < 200) (hw : gI w 448 q = 10) {f : Nat} {v9 : Int32} {w9 : GW} (hM : Ans g (d - 1) mX0_useCaught [.ref (eB g + 1), .ref q, .ref f] (setI w 5 (eB g + 1) (nI (c + 1))) (some (.int v9)) w9) (k : Q v9 w9) : gMI g d mX0_doStep [.ref (eB g + 1), .ref rt, .ref q, .ref f, .int (nI cl)] w Q := by
  refine gMI_of ?_
  have o1 : gOb g w (eB g + 1) 0 := hS.ob 1 rfl
  have hw1 : gI (setI w 5 (eB g + 1) (nI (c + 1))) 448 q = 10 := hw
  have hS1 : SK g (setI w 5 (eB g + 1) (nI (c + 1))) := hS.setI 5 _ _ (by decide)
  have hq1 : gOb g (setI w 5 (eB g + 1) (nI (c + 1))) q 7 := hq
  refine gM.of (by decide) (Nat.le_of_ble_eq_true rfl) ?_
  refine g_aload_n dX0_doStep_0 rfl ?_
  refine g_callV (d1 := d - 1) (As := []) 0 dX0_doStep_1 vX0_91 (by omega) (by assumption) rfl rfl (Nat.le_of_ble_eq_true rfl) ?_
  refine c_isCounted hS hc (by omega) (fun z => absurd z (by omega)) (fun _ => ?_)
  refine g_if_ne 15 dX0_doStep_4 (by decide) (fun _ => ?_) (fun q => absurd q (by decide))
  refine g_aload_n dX0_doStep_15 rfl ?_
  refine g_getI 7 0 448 dX0_doStep_16 fX0_99 rfl rfl (by assumption) ?_
  refine g_tableIn (off := 138) 157 dX0_doStep_19 (by rw [hw1]; decide) (by rw [hw1]; decide) (by rw [hw1]; rfl) (by decide) ?_
  refine g_aload_n dX0_doStep_157 rfl ?_
  refine g_ifnonnull 165 dX0_doStep_158 (by decide) ?_
  refine g_aload_n dX0_doStep_165 rfl ?_
  refine g_aload_n dX0_doStep_166 rfl ?_
  refine g_aload_n dX0_doStep_167 rfl ?_
  refine g_callV (d1 := d - 1) (As := [_, _]) 0 dX0_doStep_168 vX0_132 (by omega) (by assumption) rfl rfl (Nat.le_of_ble_eq_true rfl) ?_
  refine hM _ ?_
  refine g_iret dX0_doStep_171 rfl ?_
  exact ⟨_, rfl, k⟩
set_option maxHeartbeats 4000000 in
set_option maxRecDepth 20000 in
theorem c_stepW13 {g : GE} {d : Nat} {w : GW} {Q : Int32 → GW → Prop} {cau : Option Nat} (hd : 4 ≤ d) {q rt cl c : Nat} (hS : SK g w) (hq : gOb g w q 7) (hc : gI w 5 (eB g + 1) = nI c) (hc2 : c < 200) (hw : gI w 448 q = 13) {v9 : Int32} {w9 : GW} (hM : AnsW g (d - 1) q (setI w 5 (eB g + 1) (nI (c + 1))) (some (.int v9)) w9) (hq9 : gOb g w9 q 7) (hS9 : SK g w9) (k1 : v9 = 0 → Q 0 w9) (k2 : ¬ v9 = 0 → Q 3 (thrF g w9 v9 (gI w9 453 q) 0 0 (gI w9 453 q) (fWeight v9 0 1))) : gMI g d mX0_doStep [.ref (eB g + 1), .ref rt, .ref q, va_rf cau, .int (nI cl)] w Q := by
  refine gMI_of ?_
  have o1 : gOb g w (eB g + 1) 0 := hS.ob 1 rfl
  have hw1 : gI (setI w 5 (eB g + 1) (nI (c + 1))) 448 q = 13 := hw
  cases cau with
  | none =>
    refine gM.of (by decide) (Nat.le_of_ble_eq_true rfl) ?_
    refine g_aload_n dX0_doStep_0 rfl ?_
    refine g_callV (d1 := d - 1) (As := []) 0 dX0_doStep_1 vX0_91 (by omega) (by assumption) rfl rfl (Nat.le_of_ble_eq_true rfl) ?_
    refine c_isCounted hS hc (by omega) (fun z => absurd z (by omega)) (fun _ => ?_)
    refine g_if_ne 15 dX0_doStep_4 (by decide) (fun _ => ?_) (fun q => absurd q (by decide))
    refine g_aload_n dX0_doStep_15 rfl ?_
    refine g_getI 7 0 448 dX0_doStep_16 fX0_99 rfl rfl (by assumption) ?_
    refine g_tableOut 172 dX0_doStep_19 (by rw [hw1]; decide) (by decide) ?_
    refine g_aload_n dX0_doStep_172 rfl ?_
    refine g_aload_n dX0_doStep_173 rfl ?_
    refine g_getI 7 0 448 dX0_doStep_174 fX0_99 rfl rfl (by assumption) ?_
    refine g_bipushV (v := 19) dX0_doStep_177 (by decide) ?_
    refine g_icmp_ge 190 dX0_doStep_179 (by decide) (fun q => absurd q (by rw [hw1]; decide)) (fun _ => ?_)
    refine g_aload_n dX0_doStep_182 rfl ?_
    refine g_aload_n dX0_doStep_183 rfl ?_
    refine g_callV (d1 := d - 1) (As := [_]) 0 dX0_doStep_184 vX0_136 (by omega) (by assumption) rfl rfl (Nat.le_of_ble_eq_true rfl) ?_
    refine hM.row (by rw [hw1]; decide) _ ?_
    refine g_goto 195 dX0_doStep_187 (by decide) ?_
    refine g_aload_n dX0_doStep_195 rfl ?_
    by_cases hv : v9 = 0
    · subst hv
      refine g_callV (d1 := d - 1) (As := [_, _]) 0 dX0_doStep_196 vX0_95 (by omega) (hS9.ob 1 rfl) rfl rfl (Nat.le_of_ble_eq_true rfl) ?_
      refine c_throwNone ?_
      refine g_iret dX0_doStep_199 rfl ?_
      exact ⟨_, rfl, k1 rfl⟩
    · refine g_callV (d1 := d - 1) (As := [_, _]) 0 dX0_doStep_196 vX0_95 (by omega) (hS9.ob 1 rfl) rfl rfl (Nat.le_of_ble_eq_true rfl) ?_
      refine c_throwNew (by omega) hS9 hq9 hv ?_
      refine g_iret dX0_doStep_199 rfl ?_
      exact ⟨_, rfl, k2 hv⟩
  | some cf =>
    refine gM.of (by decide) (Nat.le_of_ble_eq_true rfl) ?_
    refine g_aload_n dX0_doStep_0 rfl ?_
    refine g_callV (d1 := d - 1) (As := []) 0 dX0_doStep_1 vX0_91 (by omega) (by assumption) rfl rfl (Nat.le_of_ble_eq_true rfl) ?_
    refine c_isCounted hS hc (by omega) (fun z => absurd z (by omega)) (fun _ => ?_)
    refine g_if_ne 15 dX0_doStep_4 (by decide) (fun _ => ?_) (fun q => absurd q (by decide))
    refine g_aload_n dX0_doStep_15 rfl ?_
    refine g_getI 7 0 448 dX0_doStep_16 fX0_99 rfl rfl (by assumption) ?_
    refine g_tableOut 172 dX0_doStep_19 (by rw [hw1]; decide) (by decide) ?_
    refine g_aload_n dX0_doStep_172 rfl ?_
    refine g_aload_n dX0_doStep_173 rfl ?_
    refine g_getI 7 0 448 dX0_doStep_174 fX0_99 rfl rfl (by assumption) ?_
    refine g_bipushV (v := 19) dX0_doStep_177 (by decide) ?_
    refine g_icmp_ge 190 dX0_doStep_179 (by decide) (fun q => absurd q (by rw [hw1]; decide)) (fun _ => ?_)
    refine g_aload_n dX0_doStep_182 rfl ?_
    refine g_aload_n dX0_doStep_183 rfl ?_
    refine g_callV (d1 := d - 1) (As := [_]) 0 dX0_doStep_184 vX0_136 (by omega) (by assumption) rfl rfl (Nat.le_of_ble_eq_true rfl) ?_
    refine hM.row (by rw [hw1]; decide) _ ?_
    refine g_goto 195 dX0_doStep_187 (by decide) ?_
    refine g_aload_n dX0_doStep_195 rfl ?_
    by_cases hv : v9 = 0
    · subst hv
      refine g_callV (d1 := d - 1) (As := [_, _]) 0 dX0_doStep_196 vX0_95 (by omega) (hS9.ob 1 rfl) rfl rfl (Nat.le_of_ble_eq_true rfl) ?_
      refine c_throwNone ?_
      refine g_iret dX0_doStep_199 rfl ?_
      exact ⟨_, rfl, k1 rfl⟩
    · refine g_callV (d1 := d - 1) (As := [_, _]) 0 dX0_doStep_196 vX0_95 (by omega) (hS9.ob 1 rfl) rfl rfl (Nat.le_of_ble_eq_true rfl) ?_
      refine c_throwNew (by omega) hS9 hq9 hv ?_
      refine g_iret dX0_doStep_199 rfl ?_
      exact ⟨_, rfl, k2 hv⟩
set_option maxHeartbeats 4000000 in
set_option maxRecDepth 20000 in
theorem c_stepW14 {g : GE} {d : Nat} {w : GW} {Q : Int32 → GW → Prop} {cau : Option Nat} (hd : 4 ≤ d) {q rt cl c : Nat} (hS : SK g w) (hq : gOb g w q 7) (hc : gI w 5 (eB g + 1) = nI c) (hc2 : c < 200) (hw : gI w 448 q = 14) {v9 : Int32} {w9 : GW} (hM : AnsW g (d - 1) q (setI w 5 (eB g + 1) (nI (c + 1))) (some (.int v9)) w9) (hq9 : gOb g w9 q 7) (hS9 : SK g w9) (k1 : v9 = 0 → Q 0 w9) (k2 : ¬ v9 = 0 → Q 3 (thrF g w9 v9 (gI w9 453 q) 0 0 (gI w9 453 q) (fWeight v9 0 1))) : gMI g d mX0_doStep [.ref (eB g + 1), .ref rt, .ref q, va_rf cau, .int (nI cl)] w Q := by
  refine gMI_of ?_
  have o1 : gOb g w (eB g + 1) 0 := hS.ob 1 rfl
  have hw1 : gI (setI w 5 (eB g + 1) (nI (c + 1))) 448 q = 14 := hw
  cases cau with
  | none =>
    refine gM.of (by decide) (Nat.le_of_ble_eq_true rfl) ?_
    refine g_aload_n dX0_doStep_0 rfl ?_
    refine g_callV (d1 := d - 1) (As := []) 0 dX0_doStep_1 vX0_91 (by omega) (by assumption) rfl rfl (Nat.le_of_ble_eq_true rfl) ?_
    refine c_isCounted hS hc (by omega) (fun z => absurd z (by omega)) (fun _ => ?_)
    refine g_if_ne 15 dX0_doStep_4 (by decide) (fun _ => ?_) (fun q => absurd q (by decide))
    refine g_aload_n dX0_doStep_15 rfl ?_
    refine g_getI 7 0 448 dX0_doStep_16 fX0_99 rfl rfl (by assumption) ?_
    refine g_tableOut 172 dX0_doStep_19 (by rw [hw1]; decide) (by decide) ?_
    refine g_aload_n dX0_doStep_172 rfl ?_
    refine g_aload_n dX0_doStep_173 rfl ?_
    refine g_getI 7 0 448 dX0_doStep_174 fX0_99 rfl rfl (by assumption) ?_
    refine g_bipushV (v := 19) dX0_doStep_177 (by decide) ?_
    refine g_icmp_ge 190 dX0_doStep_179 (by decide) (fun q => absurd q (by rw [hw1]; decide)) (fun _ => ?_)
    refine g_aload_n dX0_doStep_182 rfl ?_
    refine g_aload_n dX0_doStep_183 rfl ?_
    refine g_callV (d1 := d - 1) (As := [_]) 0 dX0_doStep_184 vX0_136 (by omega) (by assumption) rfl rfl (Nat.le_of_ble_eq_true rfl) ?_
    refine hM.row (by rw [hw1]; decide) _ ?_
    refine g_goto 195 dX0_doStep_187 (by decide) ?_
    refine g_aload_n dX0_doStep_195 rfl ?_
    by_cases hv : v9 = 0
    · subst hv
      refine g_callV (d1 := d - 1) (As := [_, _]) 0 dX0_doStep_196 vX0_95 (by omega) (hS9.ob 1 rfl) rfl rfl (Nat.le_of_ble_eq_true rfl) ?_
      refine c_throwNone ?_
      refine g_iret dX0_doStep_199 rfl ?_
      exact ⟨_, rfl, k1 rfl⟩
    · refine g_callV (d1 := d - 1) (As := [_, _]) 0 dX0_doStep_196 vX0_95 (by omega) (hS9.ob 1 rfl) rfl rfl (Nat.le_of_ble_eq_true rfl) ?_
      refine c_throwNew (by omega) hS9 hq9 hv ?_
      refine g_iret dX0_doStep_199 rfl ?_
      exact ⟨_, rfl, k2 hv⟩
  | some cf =>
    refine gM.of (by decide) (Nat.le_of_ble_eq_true rfl) ?_
    refine g_aload_n dX0_doStep_0 rfl ?_
    refine g_callV (d1 := d - 1) (As := []) 0 dX0_doStep_1 vX0_91 (by omega) (by assumption) rfl rfl (Nat.le_of_ble_eq_true rfl) ?_
    refine c_isCounted hS hc (by omega) (fun z => absurd z (by omega)) (fun _ => ?_)
    refine g_if_ne 15 dX0_doStep_4 (by decide) (fun _ => ?_) (fun q => absurd q (by decide))
    refine g_aload_n dX0_doStep_15 rfl ?_
    refine g_getI 7 0 448 dX0_doStep_16 fX0_99 rfl rfl (by assumption) ?_
    refine g_tableOut 172 dX0_doStep_19 (by rw [hw1]; decide) (by decide) ?_
    refine g_aload_n dX0_doStep_172 rfl ?_
    refine g_aload_n dX0_doStep_173 rfl ?_
    refine g_getI 7 0 448 dX0_doStep_174 fX0_99 rfl rfl (by assumption) ?_
    refine g_bipushV (v := 19) dX0_doStep_177 (by decide) ?_
    refine g_icmp_ge 190 dX0_doStep_179 (by decide) (fun q => absurd q (by rw [hw1]; decide)) (fun _ => ?_)
    refine g_aload_n dX0_doStep_182 rfl ?_
    refine g_aload_n dX0_doStep_183 rfl ?_
    refine g_callV (d1 := d - 1) (As := [_]) 0 dX0_doStep_184 vX0_136 (by omega) (by assumption) rfl rfl (Nat.le_of_ble_eq_true rfl) ?_
    refine hM.row (by rw [hw1]; decide) _ ?_
    refine g_goto 195 dX0_doStep_187 (by decide) ?_
    refine g_aload_n dX0_doStep_195 rfl ?_
    by_cases hv : v9 = 0
    · subst hv
      refine g_callV (d1 := d - 1) (As := [_, _]) 0 dX0_doStep_196 vX0_95 (by omega) (hS9.ob 1 rfl) rfl rfl (Nat.le_of_ble_eq_true rfl) ?_
      refine c_throwNone ?_
      refine g_iret dX0_doStep_199 rfl ?_
      exact ⟨_, rfl, k1 rfl⟩
    · refine g_callV (d1 := d - 1) (As := [_, _]) 0 dX0_doStep_196 vX0_95 (by omega) (hS9.ob 1 rfl) rfl rfl (Nat.le_of_ble_eq_true rfl) ?_
      refine c_throwNew (by omega) hS9 hq9 hv ?_
      refine g_iret dX0_doStep_199 rfl ?_
      exact ⟨_, rfl, k2 hv⟩
set_option maxHeartbeats 4000000 in
set_option maxRecDepth 20000 in
theorem c_stepW15 {g : GE} {d : Nat} {w : GW} {Q : Int32 → GW → Prop} {cau : Option Nat} (hd : 4 ≤ d) {q rt cl c : Nat} (hS : SK g w) (hq : gOb g w q 7) (hc : gI w 5 (eB g + 1) = nI c) (hc2 : c < 200) (hw : gI w 448 q = 15) {v9 : Int32} {w9 : GW} (hM : AnsW g (d - 1) q (setI w 5 (eB g + 1) (nI (c + 1))) (some (.int v9)) w9) (hq9 : gOb g w9 q 7) (hS9 : SK g w9) (k1 : v9 = 0 → Q 0 w9) (k2 : ¬ v9 = 0 → Q 3 (thrF g w9 v9 (gI w9 453 q) 0 0 (gI w9 453 q) (fWeight v9 0 1))) : gMI g d mX0_doStep [.ref (eB g + 1), .ref rt, .ref q, va_rf cau, .int (nI cl)] w Q := by
  refine gMI_of ?_
  have o1 : gOb g w (eB g + 1) 0 := hS.ob 1 rfl
  have hw1 : gI (setI w 5 (eB g + 1) (nI (c + 1))) 448 q = 15 := hw
  cases cau with
  | none =>
    refine gM.of (by decide) (Nat.le_of_ble_eq_true rfl) ?_
    refine g_aload_n dX0_doStep_0 rfl ?_
    refine g_callV (d1 := d - 1) (As := []) 0 dX0_doStep_1 vX0_91 (by omega) (by assumption) rfl rfl (Nat.le_of_ble_eq_true rfl) ?_
    refine c_isCounted hS hc (by omega) (fun z => absurd z (by omega)) (fun _ => ?_)
    refine g_if_ne 15 dX0_doStep_4 (by decide) (fun _ => ?_) (fun q => absurd q (by decide))
    refine g_aload_n dX0_doStep_15 rfl ?_
    refine g_getI 7 0 448 dX0_doStep_16 fX0_99 rfl rfl (by assumption) ?_
    refine g_tableOut 172 dX0_doStep_19 (by rw [hw1]; decide) (by decide) ?_
    refine g_aload_n dX0_doStep_172 rfl ?_
    refine g_aload_n dX0_doStep_173 rfl ?_
    refine g_getI 7 0 448 dX0_doStep_174 fX0_99 rfl rfl (by assumption) ?_
    refine g_bipushV (v := 19) dX0_doStep_177 (by decide) ?_
    refine g_icmp_ge 190 dX0_doStep_179 (by decide) (fun q => absurd q (by rw [hw1]; decide)) (fun _ => ?_)
    refine g_aload_n dX0_doStep_182 rfl ?_
    refine g_aload_n dX0_doStep_183 rfl ?_
    refine g_callV (d1 := d - 1) (As := [_]) 0 dX0_doStep_184 vX0_136 (by omega) (by assumption) rfl rfl (Nat.le_of_ble_eq_true rfl) ?_
    refine hM.row (by rw [hw1]; decide) _ ?_
    refine g_goto 195 dX0_doStep_187 (by decide) ?_
    refine g_aload_n dX0_doStep_195 rfl ?_
    by_cases hv : v9 = 0
    · subst hv
      refine g_callV (d1 := d - 1) (As := [_, _]) 0 dX0_doStep_196 vX0_95 (by omega) (hS9.ob 1 rfl) rfl rfl (Nat.le_of_ble_eq_true rfl) ?_
      refine c_throwNone ?_
      refine g_iret dX0_doStep_199 rfl ?_
      exact ⟨_, rfl, k1 rfl⟩
    · refine g_callV (d1 := d - 1) (As := [_, _]) 0 dX0_doStep_196 vX0_95 (by omega) (hS9.ob 1 rfl) rfl rfl (Nat.le_of_ble_eq_true rfl) ?_
      refine c_throwNew (by omega) hS9 hq9 hv ?_
      refine g_iret dX0_doStep_199 rfl ?_
      exact ⟨_, rfl, k2 hv⟩
  | some cf =>
    refine gM.of (by decide) (Nat.le_of_ble_eq_true rfl) ?_
    refine g_aload_n dX0_doStep_0 rfl ?_
    refine g_callV (d1 := d - 1) (As := []) 0 dX0_doStep_1 vX0_91 (by omega) (by assumption) rfl rfl (Nat.le_of_ble_eq_true rfl) ?_
    refine c_isCounted hS hc (by omega) (fun z => absurd z (by omega)) (fun _ => ?_)
    refine g_if_ne 15 dX0_doStep_4 (by decide) (fun _ => ?_) (fun q => absurd q (by decide))
    refine g_aload_n dX0_doStep_15 rfl ?_
    refine g_getI 7 0 448 dX0_doStep_16 fX0_99 rfl rfl (by assumption) ?_
    refine g_tableOut 172 dX0_doStep_19 (by rw [hw1]; decide) (by decide) ?_
    refine g_aload_n dX0_doStep_172 rfl ?_
    refine g_aload_n dX0_doStep_173 rfl ?_
    refine g_getI 7 0 448 dX0_doStep_174 fX0_99 rfl rfl (by assumption) ?_
    refine g_bipushV (v := 19) dX0_doStep_177 (by decide) ?_
    refine g_icmp_ge 190 dX0_doStep_179 (by decide) (fun q => absurd q (by rw [hw1]; decide)) (fun _ => ?_)
    refine g_aload_n dX0_doStep_182 rfl ?_
    refine g_aload_n dX0_doStep_183 rfl ?_
    refine g_callV (d1 := d - 1) (As := [_]) 0 dX0_doStep_184 vX0_136 (by omega) (by assumption) rfl rfl (Nat.le_of_ble_eq_true rfl) ?_
    refine hM.row (by rw [hw1]; decide) _ ?_
    refine g_goto 195 dX0_doStep_187 (by decide) ?_
    refine g_aload_n dX0_doStep_195 rfl ?_
    by_cases hv : v9 = 0
    · subst hv
      refine g_callV (d1 := d - 1) (As := [_, _]) 0 dX0_doStep_196 vX0_95 (by omega) (hS9.ob 1 rfl) rfl rfl (Nat.le_of_ble_eq_true rfl) ?_
      refine c_throwNone ?_
      refine g_iret dX0_doStep_199 rfl ?_
      exact ⟨_, rfl, k1 rfl⟩
    · refine g_callV (d1 := d - 1) (As := [_, _]) 0 dX0_doStep_196 vX0_95 (by omega) (hS9.ob 1 rfl) rfl rfl (Nat.le_of_ble_eq_true rfl) ?_
      refine c_throwNew (by omega) hS9 hq9 hv ?_
      refine g_iret dX0_doStep_199 rfl ?_
      exact ⟨_, rfl, k2 hv⟩
set_option maxHeartbeats 4000000 in
set_option maxRecDepth 20000 in
theorem c_stepW16 {g : GE} {d : Nat} {w : GW} {Q : Int32 → GW → Prop} {cau : Option Nat} (hd : 4 ≤ d) {q rt cl c : Nat} (hS : SK g w) (hq : gOb g w q 7) (hc : gI w 5 (eB g + 1) = nI c) (hc2 : c < 200) (hw : gI w 448 q = 16) {v9 : Int32} {w9 : GW} (hM : AnsW g (d - 1) q (setI w 5 (eB g + 1) (nI (c + 1))) (some (.int v9)) w9) (hq9 : gOb g w9 q 7) (hS9 : SK g w9) (k1 : v9 = 0 → Q 0 w9) (k2 : ¬ v9 = 0 → Q 3 (thrF g w9 v9 (gI w9 453 q) 0 0 (gI w9 453 q) (fWeight v9 0 1))) : gMI g d mX0_doStep [.ref (eB g + 1), .ref rt, .ref q, va_rf cau, .int (nI cl)] w Q := by
  refine gMI_of ?_
  have o1 : gOb g w (eB g + 1) 0 := hS.ob 1 rfl
  have hw1 : gI (setI w 5 (eB g + 1) (nI (c + 1))) 448 q = 16 := hw
  cases cau with
  | none =>
    refine gM.of (by decide) (Nat.le_of_ble_eq_true rfl) ?_
    refine g_aload_n dX0_doStep_0 rfl ?_
    refine g_callV (d1 := d - 1) (As := []) 0 dX0_doStep_1 vX0_91 (by omega) (by assumption) rfl rfl (Nat.le_of_ble_eq_true rfl) ?_
    refine c_isCounted hS hc (by omega) (fun z => absurd z (by omega)) (fun _ => ?_)
    refine g_if_ne 15 dX0_doStep_4 (by decide) (fun _ => ?_) (fun q => absurd q (by decide))
    refine g_aload_n dX0_doStep_15 rfl ?_
    refine g_getI 7 0 448 dX0_doStep_16 fX0_99 rfl rfl (by assumption) ?_
    refine g_tableOut 172 dX0_doStep_19 (by rw [hw1]; decide) (by decide) ?_
    refine g_aload_n dX0_doStep_172 rfl ?_
    refine g_aload_n dX0_doStep_173 rfl ?_
    refine g_getI 7 0 448 dX0_doStep_174 fX0_99 rfl rfl (by assumption) ?_
    refine g_bipushV (v := 19) dX0_doStep_177 (by decide) ?_
    refine g_icmp_ge 190 dX0_doStep_179 (by decide) (fun q => absurd q (by rw [hw1]; decide)) (fun _ => ?_)
    refine g_aload_n dX0_doStep_182 rfl ?_
    refine g_aload_n dX0_doStep_183 rfl ?_
    refine g_callV (d1 := d - 1) (As := [_]) 0 dX0_doStep_184 vX0_136 (by omega) (by assumption) rfl rfl (Nat.le_of_ble_eq_true rfl) ?_
    refine hM.row (by rw [hw1]; decide) _ ?_
    refine g_goto 195 dX0_doStep_187 (by decide) ?_
    refine g_aload_n dX0_doStep_195 rfl ?_
    by_cases hv : v9 = 0
    · subst hv
      refine g_callV (d1 := d - 1) (As := [_, _]) 0 dX0_doStep_196 vX0_95 (by omega) (hS9.ob 1 rfl) rfl rfl (Nat.le_of_ble_eq_true rfl) ?_
      refine c_throwNone ?_
      refine g_iret dX0_doStep_199 rfl ?_
      exact ⟨_, rfl, k1 rfl⟩
    · refine g_callV (d1 := d - 1) (As := [_, _]) 0 dX0_doStep_196 vX0_95 (by omega) (hS9.ob 1 rfl) rfl rfl (Nat.le_of_ble_eq_true rfl) ?_
      refine c_throwNew (by omega) hS9 hq9 hv ?_
      refine g_iret dX0_doStep_199 rfl ?_
      exact ⟨_, rfl, k2 hv⟩
  | some cf =>
    refine gM.of (by decide) (Nat.le_of_ble_eq_true rfl) ?_
    refine g_aload_n dX0_doStep_0 rfl ?_
    refine g_callV (d1 := d - 1) (As := []) 0 dX0_doStep_1 vX0_91 (by omega) (by assumption) rfl rfl (Nat.le_of_ble_eq_true rfl) ?_
    refine c_isCounted hS hc (by omega) (fun z => absurd z (by omega)) (fun _ => ?_)
    refine g_if_ne 15 dX0_doStep_4 (by decide) (fun _ => ?_) (fun q => absurd q (by decide))
    refine g_aload_n dX0_doStep_15 rfl ?_
    refine g_getI 7 0 448 dX0_doStep_16 fX0_99 rfl rfl (by assumption) ?_
    refine g_tableOut 172 dX0_doStep_19 (by rw [hw1]; decide) (by decide) ?_
    refine g_aload_n dX0_doStep_172 rfl ?_
    refine g_aload_n dX0_doStep_173 rfl ?_
    refine g_getI 7 0 448 dX0_doStep_174 fX0_99 rfl rfl (by assumption) ?_
    refine g_bipushV (v := 19) dX0_doStep_177 (by decide) ?_
    refine g_icmp_ge 190 dX0_doStep_179 (by decide) (fun q => absurd q (by rw [hw1]; decide)) (fun _ => ?_)
    refine g_aload_n dX0_doStep_182 rfl ?_
    refine g_aload_n dX0_doStep_183 rfl ?_
    refine g_callV (d1 := d - 1) (As := [_]) 0 dX0_doStep_184 vX0_136 (by omega) (by assumption) rfl rfl (Nat.le_of_ble_eq_true rfl) ?_
    refine hM.row (by rw [hw1]; decide) _ ?_
    refine g_goto 195 dX0_doStep_187 (by decide) ?_
    refine g_aload_n dX0_doStep_195 rfl ?_
    by_cases hv : v9 = 0
    · subst hv
      refine g_callV (d1 := d - 1) (As := [_, _]) 0 dX0_doStep_196 vX0_95 (by omega) (hS9.ob 1 rfl) rfl rfl (Nat.le_of_ble_eq_true rfl) ?_
      refine c_throwNone ?_
      refine g_iret dX0_doStep_199 rfl ?_
      exact ⟨_, rfl, k1 rfl⟩
    · refine g_callV (d1 := d - 1) (As := [_, _]) 0 dX0_doStep_196 vX0_95 (by omega) (hS9.ob 1 rfl) rfl rfl (Nat.le_of_ble_eq_true rfl) ?_
      refine c_throwNew (by omega) hS9 hq9 hv ?_
      refine g_iret dX0_doStep_199 rfl ?_
      exact ⟨_, rfl, k2 hv⟩
set_option maxHeartbeats 4000000 in
set_option maxRecDepth 20000 in
theorem c_stepW17 {g : GE} {d : Nat} {w : GW} {Q : Int32 → GW → Prop} {cau : Option Nat} (hd : 4 ≤ d) {q rt cl c : Nat} (hS : SK g w) (hq : gOb g w q 7) (hc : gI w 5 (eB g + 1) = nI c) (hc2 : c < 200) (hw : gI w 448 q = 17) {v9 : Int32} {w9 : GW} (hM : AnsW g (d - 1) q (setI w 5 (eB g + 1) (nI (c + 1))) (some (.int v9)) w9) (hq9 : gOb g w9 q 7) (hS9 : SK g w9) (k1 : v9 = 0 → Q 0 w9) (k2 : ¬ v9 = 0 → Q 3 (thrF g w9 v9 (gI w9 453 q) 0 0 (gI w9 453 q) (fWeight v9 0 1))) : gMI g d mX0_doStep [.ref (eB g + 1), .ref rt, .ref q, va_rf cau, .int (nI cl)] w Q := by
  refine gMI_of ?_
  have o1 : gOb g w (eB g + 1) 0 := hS.ob 1 rfl
  have hw1 : gI (setI w 5 (eB g + 1) (nI (c + 1))) 448 q = 17 := hw
  cases cau with
  | none =>
    refine gM.of (by decide) (Nat.le_of_ble_eq_true rfl) ?_
    refine g_aload_n dX0_doStep_0 rfl ?_
    refine g_callV (d1 := d - 1) (As := []) 0 dX0_doStep_1 vX0_91 (by omega) (by assumption) rfl rfl (Nat.le_of_ble_eq_true rfl) ?_
    refine c_isCounted hS hc (by omega) (fun z => absurd z (by omega)) (fun _ => ?_)
    refine g_if_ne 15 dX0_doStep_4 (by decide) (fun _ => ?_) (fun q => absurd q (by decide))
    refine g_aload_n dX0_doStep_15 rfl ?_
    refine g_getI 7 0 448 dX0_doStep_16 fX0_99 rfl rfl (by assumption) ?_
    refine g_tableOut 172 dX0_doStep_19 (by rw [hw1]; decide) (by decide) ?_
    refine g_aload_n dX0_doStep_172 rfl ?_
    refine g_aload_n dX0_doStep_173 rfl ?_
    refine g_getI 7 0 448 dX0_doStep_174 fX0_99 rfl rfl (by assumption) ?_
    refine g_bipushV (v := 19) dX0_doStep_177 (by decide) ?_
    refine g_icmp_ge 190 dX0_doStep_179 (by decide) (fun q => absurd q (by rw [hw1]; decide)) (fun _ => ?_)
    refine g_aload_n dX0_doStep_182 rfl ?_
    refine g_aload_n dX0_doStep_183 rfl ?_
    refine g_callV (d1 := d - 1) (As := [_]) 0 dX0_doStep_184 vX0_136 (by omega) (by assumption) rfl rfl (Nat.le_of_ble_eq_true rfl) ?_
    refine hM.row (by rw [hw1]; decide) _ ?_
    refine g_goto 195 dX0_doStep_187 (by decide) ?_
    refine g_aload_n dX0_doStep_195 rfl ?_
    by_cases hv : v9 = 0
    · subst hv
      refine g_callV (d1 := d - 1) (As := [_, _]) 0 dX0_doStep_196 vX0_95 (by omega) (hS9.ob 1 rfl) rfl rfl (Nat.le_of_ble_eq_true rfl) ?_
      refine c_throwNone ?_
      refine g_iret dX0_doStep_199 rfl ?_
      exact ⟨_, rfl, k1 rfl⟩
    · refine g_callV (d1 := d - 1) (As := [_, _]) 0 dX0_doStep_196 vX0_95 (by omega) (hS9.ob 1 rfl) rfl rfl (Nat.le_of_ble_eq_true rfl) ?_
      refine c_throwNew (by omega) hS9 hq9 hv ?_
      refine g_iret dX0_doStep_199 rfl ?_
      exact ⟨_, rfl, k2 hv⟩
  | some cf =>
    refine gM.of (by decide) (Nat.le_of_ble_eq_true rfl) ?_
    refine g_aload_n dX0_doStep_0 rfl ?_
    refine g_callV (d1 := d - 1) (As := []) 0 dX0_doStep_1 vX0_91 (by omega) (by assumption) rfl rfl (Nat.le_of_ble_eq_true rfl) ?_
    refine c_isCounted hS hc (by omega) (fun z => absurd z (by omega)) (fun _ => ?_)
    refine g_if_ne 15 dX0_doStep_4 (by decide) (fun _ => ?_) (fun q => absurd q (by decide))
    refine g_aload_n dX0_doStep_15 rfl ?_
    refine g_getI 7 0 448 dX0_doStep_16 fX0_99 rfl rfl (by assumption) ?_
    refine g_tableOut 172 dX0_doStep_19 (by rw [hw1]; decide) (by decide) ?_
    refine g_aload_n dX0_doStep_172 rfl ?_
    refine g_aload_n dX0_doStep_173 rfl ?_
    refine g_getI 7 0 448 dX0_doStep_174 fX0_99 rfl rfl (by assumption) ?_
    refine g_bipushV (v := 19) dX0_doStep_177 (by decide) ?_
    refine g_icmp_ge 190 dX0_doStep_179 (by decide) (fun q => absurd q (by rw [hw1]; decide)) (fun _ => ?_)
    refine g_aload_n dX0_doStep_182 rfl ?_
    refine g_aload_n dX0_doStep_183 rfl ?_
    refine g_callV (d1 := d - 1) (As := [_]) 0 dX0_doStep_184 vX0_136 (by omega) (by assumption) rfl rfl (Nat.le_of_ble_eq_true rfl) ?_
    refine hM.row (by rw [hw1]; decide) _ ?_
    refine g_goto 195 dX0_doStep_187 (by decide) ?_
    refine g_aload_n dX0_doStep_195 rfl ?_
    by_cases hv : v9 = 0
    · subst hv
      refine g_callV (d1 := d - 1) (As := [_, _]) 0 dX0_doStep_196 vX0_95 (by omega) (hS9.ob 1 rfl) rfl rfl (Nat.le_of_ble_eq_true rfl) ?_
      refine c_throwNone ?_
      refine g_iret dX0_doStep_199 rfl ?_
      exact ⟨_, rfl, k1 rfl⟩
    · refine g_callV (d1 := d - 1) (As := [_, _]) 0 dX0_doStep_196 vX0_95 (by omega) (hS9.ob 1 rfl) rfl rfl (Nat.le_of_ble_eq_true rfl) ?_
      refine c_throwNew (by omega) hS9 hq9 hv ?_
      refine g_iret dX0_doStep_199 rfl ?_
      exact ⟨_, rfl, k2 hv⟩
set_option maxHeartbeats 4000000 in
set_option maxRecDepth 20000 in
theorem c_stepW18 {g : GE} {d : Nat} {w : GW} {Q : Int32 → GW → Prop} {cau : Option Nat} (hd : 4 ≤ d) {q rt cl c : Nat} (hS : SK g w) (hq : gOb g w q 7) (hc : gI w 5 (eB g + 1) = nI c) (hc2 : c < 200) (hw : gI w 448 q = 18) {v9 : Int32} {w9 : GW} (hM : AnsW g (d - 1) q (setI w 5 (eB g + 1) (nI (c + 1))) (some (.int v9)) w9) (hq9 : gOb g w9 q 7) (hS9 : SK g w9) (k1 : v9 = 0 → Q 0 w9) (k2 : ¬ v9 = 0 → Q 3 (thrF g w9 v9 (gI w9 453 q) 0 0 (gI w9 453 q) (fWeight v9 0 1))) : gMI g d mX0_doStep [.ref (eB g + 1), .ref rt, .ref q, va_rf cau, .int (nI cl)] w Q := by
  refine gMI_of ?_
  have o1 : gOb g w (eB g + 1) 0 := hS.ob 1 rfl
  have hw1 : gI (setI w 5 (eB g + 1) (nI (c + 1))) 448 q = 18 := hw
  cases cau with
  | none =>
    refine gM.of (by decide) (Nat.le_of_ble_eq_true rfl) ?_
    refine g_aload_n dX0_doStep_0 rfl ?_
    refine g_callV (d1 := d - 1) (As := []) 0 dX0_doStep_1 vX0_91 (by omega) (by assumption) rfl rfl (Nat.le_of_ble_eq_true rfl) ?_
    refine c_isCounted hS hc (by omega) (fun z => absurd z (by omega)) (fun _ => ?_)
    refine g_if_ne 15 dX0_doStep_4 (by decide) (fun _ => ?_) (fun q => absurd q (by decide))
    refine g_aload_n dX0_doStep_15 rfl ?_
    refine g_getI 7 0 448 dX0_doStep_16 fX0_99 rfl rfl (by assumption) ?_
    refine g_tableOut 172 dX0_doStep_19 (by rw [hw1]; decide) (by decide) ?_
    refine g_aload_n dX0_doStep_172 rfl ?_
    refine g_aload_n dX0_doStep_173 rfl ?_
    refine g_getI 7 0 448 dX0_doStep_174 fX0_99 rfl rfl (by assumption) ?_
    refine g_bipushV (v := 19) dX0_doStep_177 (by decide) ?_
    refine g_icmp_ge 190 dX0_doStep_179 (by decide) (fun q => absurd q (by rw [hw1]; decide)) (fun _ => ?_)
    refine g_aload_n dX0_doStep_182 rfl ?_
    refine g_aload_n dX0_doStep_183 rfl ?_
    refine g_callV (d1 := d - 1) (As := [_]) 0 dX0_doStep_184 vX0_136 (by omega) (by assumption) rfl rfl (Nat.le_of_ble_eq_true rfl) ?_
    refine hM.row (by rw [hw1]; decide) _ ?_
    refine g_goto 195 dX0_doStep_187 (by decide) ?_
    refine g_aload_n dX0_doStep_195 rfl ?_
    by_cases hv : v9 = 0
    · subst hv
      refine g_callV (d1 := d - 1) (As := [_, _]) 0 dX0_doStep_196 vX0_95 (by omega) (hS9.ob 1 rfl) rfl rfl (Nat.le_of_ble_eq_true rfl) ?_
      refine c_throwNone ?_
      refine g_iret dX0_doStep_199 rfl ?_
      exact ⟨_, rfl, k1 rfl⟩
    · refine g_callV (d1 := d - 1) (As := [_, _]) 0 dX0_doStep_196 vX0_95 (by omega) (hS9.ob 1 rfl) rfl rfl (Nat.le_of_ble_eq_true rfl) ?_
      refine c_throwNew (by omega) hS9 hq9 hv ?_
      refine g_iret dX0_doStep_199 rfl ?_
      exact ⟨_, rfl, k2 hv⟩
  | some cf =>
    refine gM.of (by decide) (Nat.le_of_ble_eq_true rfl) ?_
    refine g_aload_n dX0_doStep_0 rfl ?_
    refine g_callV (d1 := d - 1) (As := []) 0 dX0_doStep_1 vX0_91 (by omega) (by assumption) rfl rfl (Nat.le_of_ble_eq_true rfl) ?_
    refine c_isCounted hS hc (by omega) (fun z => absurd z (by omega)) (fun _ => ?_)
    refine g_if_ne 15 dX0_doStep_4 (by decide) (fun _ => ?_) (fun q => absurd q (by decide))
    refine g_aload_n dX0_doStep_15 rfl ?_
    refine g_getI 7 0 448 dX0_doStep_16 fX0_99 rfl rfl (by assumption) ?_
    refine g_tableOut 172 dX0_doStep_19 (by rw [hw1]; decide) (by decide) ?_
    refine g_aload_n dX0_doStep_172 rfl ?_
    refine g_aload_n dX0_doStep_173 rfl ?_
    refine g_getI 7 0 448 dX0_doStep_174 fX0_99 rfl rfl (by assumption) ?_
    refine g_bipushV (v := 19) dX0_doStep_177 (by decide) ?_
    refine g_icmp_ge 190 dX0_doStep_179 (by decide) (fun q => absurd q (by rw [hw1]; decide)) (fun _ => ?_)
    refine g_aload_n dX0_doStep_182 rfl ?_
    refine g_aload_n dX0_doStep_183 rfl ?_
    refine g_callV (d1 := d - 1) (As := [_]) 0 dX0_doStep_184 vX0_136 (by omega) (by assumption) rfl rfl (Nat.le_of_ble_eq_true rfl) ?_
    refine hM.row (by rw [hw1]; decide) _ ?_
    refine g_goto 195 dX0_doStep_187 (by decide) ?_
    refine g_aload_n dX0_doStep_195 rfl ?_
    by_cases hv : v9 = 0
    · subst hv
      refine g_callV (d1 := d - 1) (As := [_, _]) 0 dX0_doStep_196 vX0_95 (by omega) (hS9.ob 1 rfl) rfl rfl (Nat.le_of_ble_eq_true rfl) ?_
      refine c_throwNone ?_
      refine g_iret dX0_doStep_199 rfl ?_
      exact ⟨_, rfl, k1 rfl⟩
    · refine g_callV (d1 := d - 1) (As := [_, _]) 0 dX0_doStep_196 vX0_95 (by omega) (hS9.ob 1 rfl) rfl rfl (Nat.le_of_ble_eq_true rfl) ?_
      refine c_throwNew (by omega) hS9 hq9 hv ?_
      refine g_iret dX0_doStep_199 rfl ?_
      exact ⟨_, rfl, k2 hv⟩
set_option maxHeartbeats 4000000 in
set_option maxRecDepth 20000 in
theorem c_stepW19 {g : GE} {d : Nat} {w : GW} {Q : Int32 → GW → Prop} {cau : Option Nat} (hd : 4 ≤ d) {q rt cl c : Nat} (hS : SK g w) (hq : gOb g w q 7) (hc : gI w 5 (eB g + 1) = nI c) (hc2 : c < 200) (hw : gI w 448 q = 19) {v9 : Int32} {w9 : GW} (hM : AnsW g (d - 1) q (setI w 5 (eB g + 1) (nI (c + 1))) (some (.int v9)) w9) (hq9 : gOb g w9 q 7) (hS9 : SK g w9) (k1 : v9 = 0 → Q 0 w9) (k2 : ¬ v9 = 0 → Q 3 (thrF g w9 v9 (gI w9 453 q) 0 0 (gI w9 453 q) (fWeight v9 0 1))) : gMI g d mX0_doStep [.ref (eB g + 1), .ref rt, .ref q, va_rf cau, .int (nI cl)] w Q := by
  refine gMI_of ?_
  have o1 : gOb g w (eB g + 1) 0 := hS.ob 1 rfl
  have hw1 : gI (setI w 5 (eB g + 1) (nI (c + 1))) 448 q = 19 := hw
  cases cau with
  | none =>
    refine gM.of (by decide) (Nat.le_of_ble_eq_true rfl) ?_
    refine g_aload_n dX0_doStep_0 rfl ?_
    refine g_callV (d1 := d - 1) (As := []) 0 dX0_doStep_1 vX0_91 (by omega) (by assumption) rfl rfl (Nat.le_of_ble_eq_true rfl) ?_
    refine c_isCounted hS hc (by omega) (fun z => absurd z (by omega)) (fun _ => ?_)
    refine g_if_ne 15 dX0_doStep_4 (by decide) (fun _ => ?_) (fun q => absurd q (by decide))
    refine g_aload_n dX0_doStep_15 rfl ?_
    refine g_getI 7 0 448 dX0_doStep_16 fX0_99 rfl rfl (by assumption) ?_
    refine g_tableOut 172 dX0_doStep_19 (by rw [hw1]; decide) (by decide) ?_
    refine g_aload_n dX0_doStep_172 rfl ?_
    refine g_aload_n dX0_doStep_173 rfl ?_
    refine g_getI 7 0 448 dX0_doStep_174 fX0_99 rfl rfl (by assumption) ?_
    refine g_bipushV (v := 19) dX0_doStep_177 (by decide) ?_
    refine g_icmp_ge 190 dX0_doStep_179 (by decide) (fun _ => ?_) (fun q => absurd (by rw [hw1]; decide) q)
    refine g_aload_n dX0_doStep_190 rfl ?_
    refine g_aload_n dX0_doStep_191 rfl ?_
    refine g_callV (d1 := d - 1) (As := [_]) 0 dX0_doStep_192 vX0_140 (by omega) (by assumption) rfl rfl (Nat.le_of_ble_eq_true rfl) ?_
    refine hM.dials (by rw [hw1]; decide) _ ?_
    refine g_aload_n dX0_doStep_195 rfl ?_
    by_cases hv : v9 = 0
    · subst hv
      refine g_callV (d1 := d - 1) (As := [_, _]) 0 dX0_doStep_196 vX0_95 (by omega) (hS9.ob 1 rfl) rfl rfl (Nat.le_of_ble_eq_true rfl) ?_
      refine c_throwNone ?_
      refine g_iret dX0_doStep_199 rfl ?_
      exact ⟨_, rfl, k1 rfl⟩
    · refine g_callV (d1 := d - 1) (As := [_, _]) 0 dX0_doStep_196 vX0_95 (by omega) (hS9.ob 1 rfl) rfl rfl (Nat.le_of_ble_eq_true rfl) ?_
      refine c_throwNew (by omega) hS9 hq9 hv ?_
      refine g_iret dX0_doStep_199 rfl ?_
      exact ⟨_, rfl, k2 hv⟩
  | some cf =>
    refine gM.of (by decide) (Nat.le_of_ble_eq_true rfl) ?_
    refine g_aload_n dX0_doStep_0 rfl ?_
    refine g_callV (d1 := d - 1) (As := []) 0 dX0_doStep_1 vX0_91 (by omega) (by assumption) rfl rfl (Nat.le_of_ble_eq_true rfl) ?_
    refine c_isCounted hS hc (by omega) (fun z => absurd z (by omega)) (fun _ => ?_)
    refine g_if_ne 15 dX0_doStep_4 (by decide) (fun _ => ?_) (fun q => absurd q (by decide))
    refine g_aload_n dX0_doStep_15 rfl ?_
    refine g_getI 7 0 448 dX0_doStep_16 fX0_99 rfl rfl (by assumption) ?_
    refine g_tableOut 172 dX0_doStep_19 (by rw [hw1]; decide) (by decide) ?_
    refine g_aload_n dX0_doStep_172 rfl ?_
    refine g_aload_n dX0_doStep_173 rfl ?_
    refine g_getI 7 0 448 dX0_doStep_174 fX0_99 rfl rfl (by assumption) ?_
    refine g_bipushV (v := 19) dX0_doStep_177 (by decide) ?_
    refine g_icmp_ge 190 dX0_doStep_179 (by decide) (fun _ => ?_) (fun q => absurd (by rw [hw1]; decide) q)
    refine g_aload_n dX0_doStep_190 rfl ?_
    refine g_aload_n dX0_doStep_191 rfl ?_
    refine g_callV (d1 := d - 1) (As := [_]) 0 dX0_doStep_192 vX0_140 (by omega) (by assumption) rfl rfl (Nat.le_of_ble_eq_true rfl) ?_
    refine hM.dials (by rw [hw1]; decide) _ ?_
    refine g_aload_n dX0_doStep_195 rfl ?_
    by_cases hv : v9 = 0
    · subst hv
      refine g_callV (d1 := d - 1) (As := [_, _]) 0 dX0_doStep_196 vX0_95 (by omega) (hS9.ob 1 rfl) rfl rfl (Nat.le_of_ble_eq_true rfl) ?_
      refine c_throwNone ?_
      refine g_iret dX0_doStep_199 rfl ?_
      exact ⟨_, rfl, k1 rfl⟩
    · refine g_callV (d1 := d - 1) (As := [_, _]) 0 dX0_doStep_196 vX0_95 (by omega) (hS9.ob 1 rfl) rfl rfl (Nat.le_of_ble_eq_true rfl) ?_
      refine c_throwNew (by omega) hS9 hq9 hv ?_
      refine g_iret dX0_doStep_199 rfl ?_
      exact ⟨_, rfl, k2 hv⟩
set_option maxHeartbeats 4000000 in
set_option maxRecDepth 20000 in
theorem c_stepW20 {g : GE} {d : Nat} {w : GW} {Q : Int32 → GW → Prop} {cau : Option Nat} (hd : 4 ≤ d) {q rt cl c : Nat} (hS : SK g w) (hq : gOb g w q 7) (hc : gI w 5 (eB g + 1) = nI c) (hc2 : c < 200) (hw : gI w 448 q = 20) {v9 : Int32} {w9 : GW} (hM : AnsW g (d - 1) q (setI w 5 (eB g + 1) (nI (c + 1))) (some (.int v9)) w9) (hq9 : gOb g w9 q 7) (hS9 : SK g w9) (k1 : v9 = 0 → Q 0 w9) (k2 : ¬ v9 = 0 → Q 3 (thrF g w9 v9 (gI w9 453 q) 0 0 (gI w9 453 q) (fWeight v9 0 1))) : gMI g d mX0_doStep [.ref (eB g + 1), .ref rt, .ref q, va_rf cau, .int (nI cl)] w Q := by
  refine gMI_of ?_
  have o1 : gOb g w (eB g + 1) 0 := hS.ob 1 rfl
  have hw1 : gI (setI w 5 (eB g + 1) (nI (c + 1))) 448 q = 20 := hw
  cases cau with
  | none =>
    refine gM.of (by decide) (Nat.le_of_ble_eq_true rfl) ?_
    refine g_aload_n dX0_doStep_0 rfl ?_
    refine g_callV (d1 := d - 1) (As := []) 0 dX0_doStep_1 vX0_91 (by omega) (by assumption) rfl rfl (Nat.le_of_ble_eq_true rfl) ?_
    refine c_isCounted hS hc (by omega) (fun z => absurd z (by omega)) (fun _ => ?_)
    refine g_if_ne 15 dX0_doStep_4 (by decide) (fun _ => ?_) (fun q => absurd q (by decide))
    refine g_aload_n dX0_doStep_15 rfl ?_
    refine g_getI 7 0 448 dX0_doStep_16 fX0_99 rfl rfl (by assumption) ?_
    refine g_tableOut 172 dX0_doStep_19 (by rw [hw1]; decide) (by decide) ?_
    refine g_aload_n dX0_doStep_172 rfl ?_
    refine g_aload_n dX0_doStep_173 rfl ?_
    refine g_getI 7 0 448 dX0_doStep_174 fX0_99 rfl rfl (by assumption) ?_
    refine g_bipushV (v := 19) dX0_doStep_177 (by decide) ?_
    refine g_icmp_ge 190 dX0_doStep_179 (by decide) (fun _ => ?_) (fun q => absurd (by rw [hw1]; decide) q)
    refine g_aload_n dX0_doStep_190 rfl ?_
    refine g_aload_n dX0_doStep_191 rfl ?_
    refine g_callV (d1 := d - 1) (As := [_]) 0 dX0_doStep_192 vX0_140 (by omega) (by assumption) rfl rfl (Nat.le_of_ble_eq_true rfl) ?_
    refine hM.dials (by rw [hw1]; decide) _ ?_
    refine g_aload_n dX0_doStep_195 rfl ?_
    by_cases hv : v9 = 0
    · subst hv
      refine g_callV (d1 := d - 1) (As := [_, _]) 0 dX0_doStep_196 vX0_95 (by omega) (hS9.ob 1 rfl) rfl rfl (Nat.le_of_ble_eq_true rfl) ?_
      refine c_throwNone ?_
      refine g_iret dX0_doStep_199 rfl ?_
      exact ⟨_, rfl, k1 rfl⟩
    · refine g_callV (d1 := d - 1) (As := [_, _]) 0 dX0_doStep_196 vX0_95 (by omega) (hS9.ob 1 rfl) rfl rfl (Nat.le_of_ble_eq_true rfl) ?_
      refine c_throwNew (by omega) hS9 hq9 hv ?_
      refine g_iret dX0_doStep_199 rfl ?_
      exact ⟨_, rfl, k2 hv⟩
  | some cf =>
    refine gM.of (by decide) (Nat.le_of_ble_eq_true rfl) ?_
    refine g_aload_n dX0_doStep_0 rfl ?_
    refine g_callV (d1 := d - 1) (As := []) 0 dX0_doStep_1 vX0_91 (by omega) (by assumption) rfl rfl (Nat.le_of_ble_eq_true rfl) ?_
    refine c_isCounted hS hc (by omega) (fun z => absurd z (by omega)) (fun _ => ?_)
    refine g_if_ne 15 dX0_doStep_4 (by decide) (fun _ => ?_) (fun q => absurd q (by decide))
    refine g_aload_n dX0_doStep_15 rfl ?_
    refine g_getI 7 0 448 dX0_doStep_16 fX0_99 rfl rfl (by assumption) ?_
    refine g_tableOut 172 dX0_doStep_19 (by rw [hw1]; decide) (by decide) ?_
    refine g_aload_n dX0_doStep_172 rfl ?_
    refine g_aload_n dX0_doStep_173 rfl ?_
    refine g_getI 7 0 448 dX0_doStep_174 fX0_99 rfl rfl (by assumption) ?_
    refine g_bipushV (v := 19) dX0_doStep_177 (by decide) ?_
    refine g_icmp_ge 190 dX0_doStep_179 (by decide) (fun _ => ?_) (fun q => absurd (by rw [hw1]; decide) q)
    refine g_aload_n dX0_doStep_190 rfl ?_
    refine g_aload_n dX0_doStep_191 rfl ?_
    refine g_callV (d1 := d - 1) (As := [_]) 0 dX0_doStep_192 vX0_140 (by omega) (by assumption) rfl rfl (Nat.le_of_ble_eq_true rfl) ?_
    refine hM.dials (by rw [hw1]; decide) _ ?_
    refine g_aload_n dX0_doStep_195 rfl ?_
    by_cases hv : v9 = 0
    · subst hv
      refine g_callV (d1 := d - 1) (As := [_, _]) 0 dX0_doStep_196 vX0_95 (by omega) (hS9.ob 1 rfl) rfl rfl (Nat.le_of_ble_eq_true rfl) ?_
      refine c_throwNone ?_
      refine g_iret dX0_doStep_199 rfl ?_
      exact ⟨_, rfl, k1 rfl⟩
    · refine g_callV (d1 := d - 1) (As := [_, _]) 0 dX0_doStep_196 vX0_95 (by omega) (hS9.ob 1 rfl) rfl rfl (Nat.le_of_ble_eq_true rfl) ?_
      refine c_throwNew (by omega) hS9 hq9 hv ?_
      refine g_iret dX0_doStep_199 rfl ?_
      exact ⟨_, rfl, k2 hv⟩
set_option maxHeartbeats 4000000 in
set_option maxRecDepth 20000 in
theorem c_stepW21 {g : GE} {d : Nat} {w : GW} {Q : Int32 → GW → Prop} {cau : Option Nat} (hd : 4 ≤ d) {q rt cl c : Nat} (hS : SK g w) (hq : gOb g w q 7) (hc : gI w 5 (eB g + 1) = nI c) (hc2 : c < 200) (hw : gI w 448 q = 21) {v9 : Int32} {w9 : GW} (hM : AnsW g (d - 1) q (setI w 5 (eB g + 1) (nI (c + 1))) (some (.int v9)) w9) (hq9 : gOb g w9 q 7) (hS9 : SK g w9) (k1 : v9 = 0 → Q 0 w9) (k2 : ¬ v9 = 0 → Q 3 (thrF g w9 v9 (gI w9 453 q) 0 0 (gI w9 453 q) (fWeight v9 0 1))) : gMI g d mX0_doStep [.ref (eB g + 1), .ref rt, .ref q, va_rf cau, .int (nI cl)] w Q := by
  refine gMI_of ?_
  have o1 : gOb g w (eB g + 1) 0 := hS.ob 1 rfl
  have hw1 : gI (setI w 5 (eB g + 1) (nI (c + 1))) 448 q = 21 := hw
  cases cau with
  | none =>
    refine gM.of (by decide) (Nat.le_of_ble_eq_true rfl) ?_
    refine g_aload_n dX0_doStep_0 rfl ?_
    refine g_callV (d1 := d - 1) (As := []) 0 dX0_doStep_1 vX0_91 (by omega) (by assumption) rfl rfl (Nat.le_of_ble_eq_true rfl) ?_
    refine c_isCounted hS hc (by omega) (fun z => absurd z (by omega)) (fun _ => ?_)
    refine g_if_ne 15 dX0_doStep_4 (by decide) (fun _ => ?_) (fun q => absurd q (by decide))
    refine g_aload_n dX0_doStep_15 rfl ?_
    refine g_getI 7 0 448 dX0_doStep_16 fX0_99 rfl rfl (by assumption) ?_
    refine g_tableOut 172 dX0_doStep_19 (by rw [hw1]; decide) (by decide) ?_
    refine g_aload_n dX0_doStep_172 rfl ?_
    refine g_aload_n dX0_doStep_173 rfl ?_
    refine g_getI 7 0 448 dX0_doStep_174 fX0_99 rfl rfl (by assumption) ?_
    refine g_bipushV (v := 19) dX0_doStep_177 (by decide) ?_
    refine g_icmp_ge 190 dX0_doStep_179 (by decide) (fun _ => ?_) (fun q => absurd (by rw [hw1]; decide) q)
    refine g_aload_n dX0_doStep_190 rfl ?_
    refine g_aload_n dX0_doStep_191 rfl ?_
    refine g_callV (d1 := d - 1) (As := [_]) 0 dX0_doStep_192 vX0_140 (by omega) (by assumption) rfl rfl (Nat.le_of_ble_eq_true rfl) ?_
    refine hM.dials (by rw [hw1]; decide) _ ?_
    refine g_aload_n dX0_doStep_195 rfl ?_
    by_cases hv : v9 = 0
    · subst hv
      refine g_callV (d1 := d - 1) (As := [_, _]) 0 dX0_doStep_196 vX0_95 (by omega) (hS9.ob 1 rfl) rfl rfl (Nat.le_of_ble_eq_true rfl) ?_
      refine c_throwNone ?_
      refine g_iret dX0_doStep_199 rfl ?_
      exact ⟨_, rfl, k1 rfl⟩
    · refine g_callV (d1 := d - 1) (As := [_, _]) 0 dX0_doStep_196 vX0_95 (by omega) (hS9.ob 1 rfl) rfl rfl (Nat.le_of_ble_eq_true rfl) ?_
      refine c_throwNew (by omega) hS9 hq9 hv ?_
      refine g_iret dX0_doStep_199 rfl ?_
      exact ⟨_, rfl, k2 hv⟩
  | some cf =>
    refine gM.of (by decide) (Nat.le_of_ble_eq_true rfl) ?_
    refine g_aload_n dX0_doStep_0 rfl ?_
    refine g_callV (d1 := d - 1) (As := []) 0 dX0_doStep_1 vX0_91 (by omega) (by assumption) rfl rfl (Nat.le_of_ble_eq_true rfl) ?_
    refine c_isCounted hS hc (by omega) (fun z => absurd z (by omega)) (fun _ => ?_)
    refine g_if_ne 15 dX0_doStep_4 (by decide) (fun _ => ?_) (fun q => absurd q (by decide))
    refine g_aload_n dX0_doStep_15 rfl ?_
    refine g_getI 7 0 448 dX0_doStep_16 fX0_99 rfl rfl (by assumption) ?_
    refine g_tableOut 172 dX0_doStep_19 (by rw [hw1]; decide) (by decide) ?_
    refine g_aload_n dX0_doStep_172 rfl ?_
    refine g_aload_n dX0_doStep_173 rfl ?_
    refine g_getI 7 0 448 dX0_doStep_174 fX0_99 rfl rfl (by assumption) ?_
    refine g_bipushV (v := 19) dX0_doStep_177 (by decide) ?_
    refine g_icmp_ge 190 dX0_doStep_179 (by decide) (fun _ => ?_) (fun q => absurd (by rw [hw1]; decide) q)
    refine g_aload_n dX0_doStep_190 rfl ?_
    refine g_aload_n dX0_doStep_191 rfl ?_
    refine g_callV (d1 := d - 1) (As := [_]) 0 dX0_doStep_192 vX0_140 (by omega) (by assumption) rfl rfl (Nat.le_of_ble_eq_true rfl) ?_
    refine hM.dials (by rw [hw1]; decide) _ ?_
    refine g_aload_n dX0_doStep_195 rfl ?_
    by_cases hv : v9 = 0
    · subst hv
      refine g_callV (d1 := d - 1) (As := [_, _]) 0 dX0_doStep_196 vX0_95 (by omega) (hS9.ob 1 rfl) rfl rfl (Nat.le_of_ble_eq_true rfl) ?_
      refine c_throwNone ?_
      refine g_iret dX0_doStep_199 rfl ?_
      exact ⟨_, rfl, k1 rfl⟩
    · refine g_callV (d1 := d - 1) (As := [_, _]) 0 dX0_doStep_196 vX0_95 (by omega) (hS9.ob 1 rfl) rfl rfl (Nat.le_of_ble_eq_true rfl) ?_
      refine c_throwNew (by omega) hS9 hq9 hv ?_
      refine g_iret dX0_doStep_199 rfl ?_
      exact ⟨_, rfl, k2 hv⟩
set_option maxHeartbeats 4000000 in
set_option maxRecDepth 20000 in
theorem c_stepW22 {g : GE} {d : Nat} {w : GW} {Q : Int32 → GW → Prop} {cau : Option Nat} (hd : 4 ≤ d) {q rt cl c : Nat} (hS : SK g w) (hq : gOb g w q 7) (hc : gI w 5 (eB g + 1) = nI c) (hc2 : c < 200) (hw : gI w 448 q = 22) {v9 : Int32} {w9 : GW} (hM : AnsW g (d - 1) q (setI w 5 (eB g + 1) (nI (c + 1))) (some (.int v9)) w9) (hq9 : gOb g w9 q 7) (hS9 : SK g w9) (k1 : v9 = 0 → Q 0 w9) (k2 : ¬ v9 = 0 → Q 3 (thrF g w9 v9 (gI w9 453 q) 0 0 (gI w9 453 q) (fWeight v9 0 1))) : gMI g d mX0_doStep [.ref (eB g + 1), .ref rt, .ref q, va_rf cau, .int (nI cl)] w Q := by
  refine gMI_of ?_
  have o1 : gOb g w (eB g + 1) 0 := hS.ob 1 rfl
  have hw1 : gI (setI w 5 (eB g + 1) (nI (c + 1))) 448 q = 22 := hw
  cases cau with
  | none =>
    refine gM.of (by decide) (Nat.le_of_ble_eq_true rfl) ?_
    refine g_aload_n dX0_doStep_0 rfl ?_
    refine g_callV (d1 := d - 1) (As := []) 0 dX0_doStep_1 vX0_91 (by omega) (by assumption) rfl rfl (Nat.le_of_ble_eq_true rfl) ?_
    refine c_isCounted hS hc (by omega) (fun z => absurd z (by omega)) (fun _ => ?_)
    refine g_if_ne 15 dX0_doStep_4 (by decide) (fun _ => ?_) (fun q => absurd q (by decide))
    refine g_aload_n dX0_doStep_15 rfl ?_
    refine g_getI 7 0 448 dX0_doStep_16 fX0_99 rfl rfl (by assumption) ?_
    refine g_tableOut 172 dX0_doStep_19 (by rw [hw1]; decide) (by decide) ?_
    refine g_aload_n dX0_doStep_172 rfl ?_
    refine g_aload_n dX0_doStep_173 rfl ?_
    refine g_getI 7 0 448 dX0_doStep_174 fX0_99 rfl rfl (by assumption) ?_
    refine g_bipushV (v := 19) dX0_doStep_177 (by decide) ?_
    refine g_icmp_ge 190 dX0_doStep_179 (by decide) (fun _ => ?_) (fun q => absurd (by rw [hw1]; decide) q)
    refine g_aload_n dX0_doStep_190 rfl ?_
    refine g_aload_n dX0_doStep_191 rfl ?_
    refine g_callV (d1 := d - 1) (As := [_]) 0 dX0_doStep_192 vX0_140 (by omega) (by assumption) rfl rfl (Nat.le_of_ble_eq_true rfl) ?_
    refine hM.dials (by rw [hw1]; decide) _ ?_
    refine g_aload_n dX0_doStep_195 rfl ?_
    by_cases hv : v9 = 0
    · subst hv
      refine g_callV (d1 := d - 1) (As := [_, _]) 0 dX0_doStep_196 vX0_95 (by omega) (hS9.ob 1 rfl) rfl rfl (Nat.le_of_ble_eq_true rfl) ?_
      refine c_throwNone ?_
      refine g_iret dX0_doStep_199 rfl ?_
      exact ⟨_, rfl, k1 rfl⟩
    · refine g_callV (d1 := d - 1) (As := [_, _]) 0 dX0_doStep_196 vX0_95 (by omega) (hS9.ob 1 rfl) rfl rfl (Nat.le_of_ble_eq_true rfl) ?_
      refine c_throwNew (by omega) hS9 hq9 hv ?_
      refine g_iret dX0_doStep_199 rfl ?_
      exact ⟨_, rfl, k2 hv⟩
  | some cf =>
    refine gM.of (by decide) (Nat.le_of_ble_eq_true rfl) ?_
    refine g_aload_n dX0_doStep_0 rfl ?_
    refine g_callV (d1 := d - 1) (As := []) 0 dX0_doStep_1 vX0_91 (by omega) (by assumption) rfl rfl (Nat.le_of_ble_eq_true rfl) ?_
    refine c_isCounted hS hc (by omega) (fun z => absurd z (by omega)) (fun _ => ?_)
    refine g_if_ne 15 dX0_doStep_4 (by decide) (fun _ => ?_) (fun q => absurd q (by decide))
    refine g_aload_n dX0_doStep_15 rfl ?_
    refine g_getI 7 0 448 dX0_doStep_16 fX0_99 rfl rfl (by assumption) ?_
    refine g_tableOut 172 dX0_doStep_19 (by rw [hw1]; decide) (by decide) ?_
    refine g_aload_n dX0_doStep_172 rfl ?_
    refine g_aload_n dX0_doStep_173 rfl ?_
    refine g_getI 7 0 448 dX0_doStep_174 fX0_99 rfl rfl (by assumption) ?_
    refine g_bipushV (v := 19) dX0_doStep_177 (by decide) ?_
    refine g_icmp_ge 190 dX0_doStep_179 (by decide) (fun _ => ?_) (fun q => absurd (by rw [hw1]; decide) q)
    refine g_aload_n dX0_doStep_190 rfl ?_
    refine g_aload_n dX0_doStep_191 rfl ?_
    refine g_callV (d1 := d - 1) (As := [_]) 0 dX0_doStep_192 vX0_140 (by omega) (by assumption) rfl rfl (Nat.le_of_ble_eq_true rfl) ?_
    refine hM.dials (by rw [hw1]; decide) _ ?_
    refine g_aload_n dX0_doStep_195 rfl ?_
    by_cases hv : v9 = 0
    · subst hv
      refine g_callV (d1 := d - 1) (As := [_, _]) 0 dX0_doStep_196 vX0_95 (by omega) (hS9.ob 1 rfl) rfl rfl (Nat.le_of_ble_eq_true rfl) ?_
      refine c_throwNone ?_
      refine g_iret dX0_doStep_199 rfl ?_
      exact ⟨_, rfl, k1 rfl⟩
    · refine g_callV (d1 := d - 1) (As := [_, _]) 0 dX0_doStep_196 vX0_95 (by omega) (hS9.ob 1 rfl) rfl rfl (Nat.le_of_ble_eq_true rfl) ?_
      refine c_throwNew (by omega) hS9 hq9 hv ?_
      refine g_iret dX0_doStep_199 rfl ?_
      exact ⟨_, rfl, k2 hv⟩
set_option maxHeartbeats 4000000 in
set_option maxRecDepth 20000 in
theorem c_stepW23 {g : GE} {d : Nat} {w : GW} {Q : Int32 → GW → Prop} {cau : Option Nat} (hd : 4 ≤ d) {q rt cl c : Nat} (hS : SK g w) (hq : gOb g w q 7) (hc : gI w 5 (eB g + 1) = nI c) (hc2 : c < 200) (hw : gI w 448 q = 23) {v9 : Int32} {w9 : GW} (hM : AnsW g (d - 1) q (setI w 5 (eB g + 1) (nI (c + 1))) (some (.int v9)) w9) (hq9 : gOb g w9 q 7) (hS9 : SK g w9) (k1 : v9 = 0 → Q 0 w9) (k2 : ¬ v9 = 0 → Q 3 (thrF g w9 v9 (gI w9 453 q) 0 0 (gI w9 453 q) (fWeight v9 0 1))) : gMI g d mX0_doStep [.ref (eB g + 1), .ref rt, .ref q, va_rf cau, .int (nI cl)] w Q := by
  refine gMI_of ?_
  have o1 : gOb g w (eB g + 1) 0 := hS.ob 1 rfl
  have hw1 : gI (setI w 5 (eB g + 1) (nI (c + 1))) 448 q = 23 := hw
  cases cau with
  | none =>
    refine gM.of (by decide) (Nat.le_of_ble_eq_true rfl) ?_
    refine g_aload_n dX0_doStep_0 rfl ?_
    refine g_callV (d1 := d - 1) (As := []) 0 dX0_doStep_1 vX0_91 (by omega) (by assumption) rfl rfl (Nat.le_of_ble_eq_true rfl) ?_
    refine c_isCounted hS hc (by omega) (fun z => absurd z (by omega)) (fun _ => ?_)
    refine g_if_ne 15 dX0_doStep_4 (by decide) (fun _ => ?_) (fun q => absurd q (by decide))
    refine g_aload_n dX0_doStep_15 rfl ?_
    refine g_getI 7 0 448 dX0_doStep_16 fX0_99 rfl rfl (by assumption) ?_
    refine g_tableOut 172 dX0_doStep_19 (by rw [hw1]; decide) (by decide) ?_
    refine g_aload_n dX0_doStep_172 rfl ?_
    refine g_aload_n dX0_doStep_173 rfl ?_
    refine g_getI 7 0 448 dX0_doStep_174 fX0_99 rfl rfl (by assumption) ?_
    refine g_bipushV (v := 19) dX0_doStep_177 (by decide) ?_
    refine g_icmp_ge 190 dX0_doStep_179 (by decide) (fun _ => ?_) (fun q => absurd (by rw [hw1]; decide) q)
    refine g_aload_n dX0_doStep_190 rfl ?_
    refine g_aload_n dX0_doStep_191 rfl ?_
    refine g_callV (d1 := d - 1) (As := [_]) 0 dX0_doStep_192 vX0_140 (by omega) (by assumption) rfl rfl (Nat.le_of_ble_eq_true rfl) ?_
    refine hM.dials (by rw [hw1]; decide) _ ?_
    refine g_aload_n dX0_doStep_195 rfl ?_
    by_cases hv : v9 = 0
    · subst hv
      refine g_callV (d1 := d - 1) (As := [_, _]) 0 dX0_doStep_196 vX0_95 (by omega) (hS9.ob 1 rfl) rfl rfl (Nat.le_of_ble_eq_true rfl) ?_
      refine c_throwNone ?_
      refine g_iret dX0_doStep_199 rfl ?_
      exact ⟨_, rfl, k1 rfl⟩
    · refine g_callV (d1 := d - 1) (As := [_, _]) 0 dX0_doStep_196 vX0_95 (by omega) (hS9.ob 1 rfl) rfl rfl (Nat.le_of_ble_eq_true rfl) ?_
      refine c_throwNew (by omega) hS9 hq9 hv ?_
      refine g_iret dX0_doStep_199 rfl ?_
      exact ⟨_, rfl, k2 hv⟩
  | some cf =>
    refine gM.of (by decide) (Nat.le_of_ble_eq_true rfl) ?_
    refine g_aload_n dX0_doStep_0 rfl ?_
    refine g_callV (d1 := d - 1) (As := []) 0 dX0_doStep_1 vX0_91 (by omega) (by assumption) rfl rfl (Nat.le_of_ble_eq_true rfl) ?_
    refine c_isCounted hS hc (by omega) (fun z => absurd z (by omega)) (fun _ => ?_)
    refine g_if_ne 15 dX0_doStep_4 (by decide) (fun _ => ?_) (fun q => absurd q (by decide))
    refine g_aload_n dX0_doStep_15 rfl ?_
    refine g_getI 7 0 448 dX0_doStep_16 fX0_99 rfl rfl (by assumption) ?_
    refine g_tableOut 172 dX0_doStep_19 (by rw [hw1]; decide) (by decide) ?_
    refine g_aload_n dX0_doStep_172 rfl ?_
    refine g_aload_n dX0_doStep_173 rfl ?_
    refine g_getI 7 0 448 dX0_doStep_174 fX0_99 rfl rfl (by assumption) ?_
    refine g_bipushV (v := 19) dX0_doStep_177 (by decide) ?_
    refine g_icmp_ge 190 dX0_doStep_179 (by decide) (fun _ => ?_) (fun q => absurd (by rw [hw1]; decide) q)
    refine g_aload_n dX0_doStep_190 rfl ?_
    refine g_aload_n dX0_doStep_191 rfl ?_
    refine g_callV (d1 := d - 1) (As := [_]) 0 dX0_doStep_192 vX0_140 (by omega) (by assumption) rfl rfl (Nat.le_of_ble_eq_true rfl) ?_
    refine hM.dials (by rw [hw1]; decide) _ ?_
    refine g_aload_n dX0_doStep_195 rfl ?_
    by_cases hv : v9 = 0
    · subst hv
      refine g_callV (d1 := d - 1) (As := [_, _]) 0 dX0_doStep_196 vX0_95 (by omega) (hS9.ob 1 rfl) rfl rfl (Nat.le_of_ble_eq_true rfl) ?_
      refine c_throwNone ?_
      refine g_iret dX0_doStep_199 rfl ?_
      exact ⟨_, rfl, k1 rfl⟩
    · refine g_callV (d1 := d - 1) (As := [_, _]) 0 dX0_doStep_196 vX0_95 (by omega) (hS9.ob 1 rfl) rfl rfl (Nat.le_of_ble_eq_true rfl) ?_
      refine c_throwNew (by omega) hS9 hq9 hv ?_
      refine g_iret dX0_doStep_199 rfl ?_
      exact ⟨_, rfl, k2 hv⟩
set_option maxHeartbeats 4000000 in
set_option maxRecDepth 20000 in
theorem c_stepW24 {g : GE} {d : Nat} {w : GW} {Q : Int32 → GW → Prop} {cau : Option Nat} (hd : 4 ≤ d) {q rt cl c : Nat} (hS : SK g w) (hq : gOb g w q 7) (hc : gI w 5 (eB g + 1) = nI c) (hc2 : c < 200) (hw : gI w 448 q = 24) {v9 : Int32} {w9 : GW} (hM : AnsW g (d - 1) q (setI w 5 (eB g + 1) (nI (c + 1))) (some (.int v9)) w9) (hq9 : gOb g w9 q 7) (hS9 : SK g w9) (k1 : v9 = 0 → Q 0 w9) (k2 : ¬ v9 = 0 → Q 3 (thrF g w9 v9 (gI w9 453 q) 0 0 (gI w9 453 q) (fWeight v9 0 1))) : gMI g d mX0_doStep [.ref (eB g + 1), .ref rt, .ref q, va_rf cau, .int (nI cl)] w Q := by
  refine gMI_of ?_
  have o1 : gOb g w (eB g + 1) 0 := hS.ob 1 rfl
  have hw1 : gI (setI w 5 (eB g + 1) (nI (c + 1))) 448 q = 24 := hw
  cases cau with
  | none =>
    refine gM.of (by decide) (Nat.le_of_ble_eq_true rfl) ?_
    refine g_aload_n dX0_doStep_0 rfl ?_
    refine g_callV (d1 := d - 1) (As := []) 0 dX0_doStep_1 vX0_91 (by omega) (by assumption) rfl rfl (Nat.le_of_ble_eq_true rfl) ?_
    refine c_isCounted hS hc (by omega) (fun z => absurd z (by omega)) (fun _ => ?_)
    refine g_if_ne 15 dX0_doStep_4 (by decide) (fun _ => ?_) (fun q => absurd q (by decide))
    refine g_aload_n dX0_doStep_15 rfl ?_
    refine g_getI 7 0 448 dX0_doStep_16 fX0_99 rfl rfl (by assumption) ?_
    refine g_tableOut 172 dX0_doStep_19 (by rw [hw1]; decide) (by decide) ?_
    refine g_aload_n dX0_doStep_172 rfl ?_
    refine g_aload_n dX0_doStep_173 rfl ?_
    refine g_getI 7 0 448 dX0_doStep_174 fX0_99 rfl rfl (by assumption) ?_
    refine g_bipushV (v := 19) dX0_doStep_177 (by decide) ?_
    refine g_icmp_ge 190 dX0_doStep_179 (by decide) (fun _ => ?_) (fun q => absurd (by rw [hw1]; decide) q)
    refine g_aload_n dX0_doStep_190 rfl ?_
    refine g_aload_n dX0_doStep_191 rfl ?_
    refine g_callV (d1 := d - 1) (As := [_]) 0 dX0_doStep_192 vX0_140 (by omega) (by assumption) rfl rfl (Nat.le_of_ble_eq_true rfl) ?_
    refine hM.dials (by rw [hw1]; decide) _ ?_
    refine g_aload_n dX0_doStep_195 rfl ?_
    by_cases hv : v9 = 0
    · subst hv
      refine g_callV (d1 := d - 1) (As := [_, _]) 0 dX0_doStep_196 vX0_95 (by omega) (hS9.ob 1 rfl) rfl rfl (Nat.le_of_ble_eq_true rfl) ?_
      refine c_throwNone ?_
      refine g_iret dX0_doStep_199 rfl ?_
      exact ⟨_, rfl, k1 rfl⟩
    · refine g_callV (d1 := d - 1) (As := [_, _]) 0 dX0_doStep_196 vX0_95 (by omega) (hS9.ob 1 rfl) rfl rfl (Nat.le_of_ble_eq_true rfl) ?_
      refine c_throwNew (by omega) hS9 hq9 hv ?_
      refine g_iret dX0_doStep_199 rfl ?_
      exact ⟨_, rfl, k2 hv⟩
  | some cf =>
    refine gM.of (by decide) (Nat.le_of_ble_eq_true rfl) ?_
    refine g_aload_n dX0_doStep_0 rfl ?_
    refine g_callV (d1 := d - 1) (As := []) 0 dX0_doStep_1 vX0_91 (by omega) (by assumption) rfl rfl (Nat.le_of_ble_eq_true rfl) ?_
    refine c_isCounted hS hc (by omega) (fun z => absurd z (by omega)) (fun _ => ?_)
    refine g_if_ne 15 dX0_doStep_4 (by decide) (fun _ => ?_) (fun q => absurd q (by decide))
    refine g_aload_n dX0_doStep_15 rfl ?_
    refine g_getI 7 0 448 dX0_doStep_16 fX0_99 rfl rfl (by assumption) ?_
    refine g_tableOut 172 dX0_doStep_19 (by rw [hw1]; decide) (by decide) ?_
    refine g_aload_n dX0_doStep_172 rfl ?_
    refine g_aload_n dX0_doStep_173 rfl ?_
    refine g_getI 7 0 448 dX0_doStep_174 fX0_99 rfl rfl (by assumption) ?_
    refine g_bipushV (v := 19) dX0_doStep_177 (by decide) ?_
    refine g_icmp_ge 190 dX0_doStep_179 (by decide) (fun _ => ?_) (fun q => absurd (by rw [hw1]; decide) q)
    refine g_aload_n dX0_doStep_190 rfl ?_
    refine g_aload_n dX0_doStep_191 rfl ?_
    refine g_callV (d1 := d - 1) (As := [_]) 0 dX0_doStep_192 vX0_140 (by omega) (by assumption) rfl rfl (Nat.le_of_ble_eq_true rfl) ?_
    refine hM.dials (by rw [hw1]; decide) _ ?_
    refine g_aload_n dX0_doStep_195 rfl ?_
    by_cases hv : v9 = 0
    · subst hv
      refine g_callV (d1 := d - 1) (As := [_, _]) 0 dX0_doStep_196 vX0_95 (by omega) (hS9.ob 1 rfl) rfl rfl (Nat.le_of_ble_eq_true rfl) ?_
      refine c_throwNone ?_
      refine g_iret dX0_doStep_199 rfl ?_
      exact ⟨_, rfl, k1 rfl⟩
    · refine g_callV (d1 := d - 1) (As := [_, _]) 0 dX0_doStep_196 vX0_95 (by omega) (hS9.ob 1 rfl) rfl rfl (Nat.le_of_ble_eq_true rfl) ?_
      refine c_throwNew (by omega) hS9 hq9 hv ?_
      refine g_iret dX0_doStep_199 rfl ?_
      exact ⟨_, rfl, k2 hv⟩
set_option maxHeartbeats 4000000 in
set_option maxRecDepth 20000 in
theorem c_doFinally {g : GE} {d : Nat} {w : GW} {Q : Int32 → GW → Prop} {cau : Option Nat} (hd : 1 ≤ d) {q rt cl : Nat} {before : Int32} {go : Option Nat} (hS : SK g w) (hgo : gR w 8 (eB g + 1) = go) (P1 : Int32 → GW → Prop) (h1 : gMI g (d - 1) mX0_doPart [.ref (eB g + 1), .ref rt, .ref q, va_rf cau, .int (nI cl)] (setI (setR w 8 (eB g + 1) none) 7 (eB g + 1) (gI w 7 (eB g + 1) + 1)) P1) (hS1 : ∀ v w1, P1 v w1 → SK g w1) (k1 : ∀ v w1, P1 v w1 → ¬ v = 0 → Q v w1) (k2 : ∀ w1, P1 0 w1 → Q before (setR w1 8 (eB g + 1) go)) : gMI g d mX0_doFinally [.ref (eB g + 1), .ref rt, .ref q, .int before, va_rf cau, .int (nI cl)] w Q := by
  refine gMI_of ?_
  have o1 : gOb g w (eB g + 1) 0 := hS.ob 1 rfl
  cases cau with
  | none =>
    refine gM.of (by decide) (Nat.le_of_ble_eq_true rfl) ?_
    cases go with
    | none =>
      refine g_aload_n dX0_doFinally_0 rfl ?_
      refine g_getN 0 8 8 dX0_doFinally_1 fX0_56 rfl rfl o1 hgo ?_
      refine g_astoreN dX0_doFinally_4 (by decide) rfl ?_
      refine g_aload_n dX0_doFinally_6 rfl ?_
      refine g_null dX0_doFinally_7 ?_
      refine g_putN 0 8 8 dX0_doFinally_8 fX0_56 rfl rfl rfl rfl (by assumption) ?_
      refine g_aload_n dX0_doFinally_11 rfl ?_
      refine g_dup dX0_doFinally_12 rfl ?_
      refine g_getI 0 7 7 dX0_doFinally_13 fX0_53 rfl rfl (by assumption) ?_
      refine g_iconstV (v := 1) dX0_doFinally_16 (by decide) ?_
      refine g_iadd dX0_doFinally_17 ?_
      refine g_putI 0 7 7 dX0_doFinally_18 fX0_53 rfl rfl (by assumption) ?_
      refine g_aload_n dX0_doFinally_21 rfl ?_
      refine g_aload_n dX0_doFinally_22 rfl ?_
      refine g_aload_n dX0_doFinally_23 rfl ?_
      refine g_aloadN dX0_doFinally_24 rfl ?_
      refine g_iload dX0_doFinally_26 rfl ?_
      refine g_callV (d1 := d - 1) (As := [_, _, _, _]) 0 dX0_doFinally_28 vX0_112 (by omega) (by assumption) rfl rfl (Nat.le_of_ble_eq_true rfl) ?_
      refine gM.imp h1 (fun rv w1 _ _ hq9 => ?_)
      obtain ⟨-, v, rfl, hp1⟩ := hq9
      refine g_istore dX0_doFinally_31 (by decide) rfl ?_
      refine g_iload dX0_doFinally_33 rfl ?_
      refine g_if_eq 41 dX0_doFinally_35 (by decide) (fun c1 => ?_) (fun c1 => ?_)
      · refine g_aload_n dX0_doFinally_41 rfl ?_
        refine g_aloadN dX0_doFinally_42 rfl ?_
        refine g_putN 0 8 8 dX0_doFinally_44 fX0_56 rfl rfl rfl rfl ((hS1 _ _ hp1).ob 1 rfl) ?_
        refine g_iload_n dX0_doFinally_47 rfl ?_
        refine g_iret dX0_doFinally_48 rfl ?_
        subst c1
        exact ⟨_, rfl, k2 w1 hp1⟩
      · refine g_iload dX0_doFinally_38 rfl ?_
        refine g_iret dX0_doFinally_40 rfl ?_
        exact ⟨v, rfl, k1 v w1 hp1 c1⟩
    | some fg =>
      refine g_aload_n dX0_doFinally_0 rfl ?_
      refine g_getR 0 8 8 dX0_doFinally_1 fX0_56 rfl rfl (by assumption) (by assumption) ?_
      refine g_astore dX0_doFinally_4 (by decide) rfl ?_
      refine g_aload_n dX0_doFinally_6 rfl ?_
      refine g_null dX0_doFinally_7 ?_
      refine g_putN 0 8 8 dX0_doFinally_8 fX0_56 rfl rfl rfl rfl (by assumption) ?_
      refine g_aload_n dX0_doFinally_11 rfl ?_
      refine g_dup dX0_doFinally_12 rfl ?_
      refine g_getI 0 7 7 dX0_doFinally_13 fX0_53 rfl rfl (by assumption) ?_
      refine g_iconstV (v := 1) dX0_doFinally_16 (by decide) ?_
      refine g_iadd dX0_doFinally_17 ?_
      refine g_putI 0 7 7 dX0_doFinally_18 fX0_53 rfl rfl (by assumption) ?_
      refine g_aload_n dX0_doFinally_21 rfl ?_
      refine g_aload_n dX0_doFinally_22 rfl ?_
      refine g_aload_n dX0_doFinally_23 rfl ?_
      refine g_aloadN dX0_doFinally_24 rfl ?_
      refine g_iload dX0_doFinally_26 rfl ?_
      refine g_callV (d1 := d - 1) (As := [_, _, _, _]) 0 dX0_doFinally_28 vX0_112 (by omega) (by assumption) rfl rfl (Nat.le_of_ble_eq_true rfl) ?_
      refine gM.imp h1 (fun rv w1 _ _ hq9 => ?_)
      obtain ⟨-, v, rfl, hp1⟩ := hq9
      refine g_istore dX0_doFinally_31 (by decide) rfl ?_
      refine g_iload dX0_doFinally_33 rfl ?_
      refine g_if_eq 41 dX0_doFinally_35 (by decide) (fun c1 => ?_) (fun c1 => ?_)
      · refine g_aload_n dX0_doFinally_41 rfl ?_
        refine g_aload dX0_doFinally_42 rfl ?_
        refine g_putR 0 8 8 dX0_doFinally_44 fX0_56 rfl rfl rfl rfl ((hS1 _ _ hp1).ob 1 rfl) ?_
        refine g_iload_n dX0_doFinally_47 rfl ?_
        refine g_iret dX0_doFinally_48 rfl ?_
        subst c1
        exact ⟨_, rfl, k2 w1 hp1⟩
      · refine g_iload dX0_doFinally_38 rfl ?_
        refine g_iret dX0_doFinally_40 rfl ?_
        exact ⟨v, rfl, k1 v w1 hp1 c1⟩
  | some cf =>
    refine gM.of (by decide) (Nat.le_of_ble_eq_true rfl) ?_
    cases go with
    | none =>
      refine g_aload_n dX0_doFinally_0 rfl ?_
      refine g_getN 0 8 8 dX0_doFinally_1 fX0_56 rfl rfl o1 hgo ?_
      refine g_astoreN dX0_doFinally_4 (by decide) rfl ?_
      refine g_aload_n dX0_doFinally_6 rfl ?_
      refine g_null dX0_doFinally_7 ?_
      refine g_putN 0 8 8 dX0_doFinally_8 fX0_56 rfl rfl rfl rfl (by assumption) ?_
      refine g_aload_n dX0_doFinally_11 rfl ?_
      refine g_dup dX0_doFinally_12 rfl ?_
      refine g_getI 0 7 7 dX0_doFinally_13 fX0_53 rfl rfl (by assumption) ?_
      refine g_iconstV (v := 1) dX0_doFinally_16 (by decide) ?_
      refine g_iadd dX0_doFinally_17 ?_
      refine g_putI 0 7 7 dX0_doFinally_18 fX0_53 rfl rfl (by assumption) ?_
      refine g_aload_n dX0_doFinally_21 rfl ?_
      refine g_aload_n dX0_doFinally_22 rfl ?_
      refine g_aload_n dX0_doFinally_23 rfl ?_
      refine g_aload dX0_doFinally_24 rfl ?_
      refine g_iload dX0_doFinally_26 rfl ?_
      refine g_callV (d1 := d - 1) (As := [_, _, _, _]) 0 dX0_doFinally_28 vX0_112 (by omega) (by assumption) rfl rfl (Nat.le_of_ble_eq_true rfl) ?_
      refine gM.imp h1 (fun rv w1 _ _ hq9 => ?_)
      obtain ⟨-, v, rfl, hp1⟩ := hq9
      refine g_istore dX0_doFinally_31 (by decide) rfl ?_
      refine g_iload dX0_doFinally_33 rfl ?_
      refine g_if_eq 41 dX0_doFinally_35 (by decide) (fun c1 => ?_) (fun c1 => ?_)
      · refine g_aload_n dX0_doFinally_41 rfl ?_
        refine g_aloadN dX0_doFinally_42 rfl ?_
        refine g_putN 0 8 8 dX0_doFinally_44 fX0_56 rfl rfl rfl rfl ((hS1 _ _ hp1).ob 1 rfl) ?_
        refine g_iload_n dX0_doFinally_47 rfl ?_
        refine g_iret dX0_doFinally_48 rfl ?_
        subst c1
        exact ⟨_, rfl, k2 w1 hp1⟩
      · refine g_iload dX0_doFinally_38 rfl ?_
        refine g_iret dX0_doFinally_40 rfl ?_
        exact ⟨v, rfl, k1 v w1 hp1 c1⟩
    | some fg =>
      refine g_aload_n dX0_doFinally_0 rfl ?_
      refine g_getR 0 8 8 dX0_doFinally_1 fX0_56 rfl rfl (by assumption) (by assumption) ?_
      refine g_astore dX0_doFinally_4 (by decide) rfl ?_
      refine g_aload_n dX0_doFinally_6 rfl ?_
      refine g_null dX0_doFinally_7 ?_
      refine g_putN 0 8 8 dX0_doFinally_8 fX0_56 rfl rfl rfl rfl (by assumption) ?_
      refine g_aload_n dX0_doFinally_11 rfl ?_
      refine g_dup dX0_doFinally_12 rfl ?_
      refine g_getI 0 7 7 dX0_doFinally_13 fX0_53 rfl rfl (by assumption) ?_
      refine g_iconstV (v := 1) dX0_doFinally_16 (by decide) ?_
      refine g_iadd dX0_doFinally_17 ?_
      refine g_putI 0 7 7 dX0_doFinally_18 fX0_53 rfl rfl (by assumption) ?_
      refine g_aload_n dX0_doFinally_21 rfl ?_
      refine g_aload_n dX0_doFinally_22 rfl ?_
      refine g_aload_n dX0_doFinally_23 rfl ?_
      refine g_aload dX0_doFinally_24 rfl ?_
      refine g_iload dX0_doFinally_26 rfl ?_
      refine g_callV (d1 := d - 1) (As := [_, _, _, _]) 0 dX0_doFinally_28 vX0_112 (by omega) (by assumption) rfl rfl (Nat.le_of_ble_eq_true rfl) ?_
      refine gM.imp h1 (fun rv w1 _ _ hq9 => ?_)
      obtain ⟨-, v, rfl, hp1⟩ := hq9
      refine g_istore dX0_doFinally_31 (by decide) rfl ?_
      refine g_iload dX0_doFinally_33 rfl ?_
      refine g_if_eq 41 dX0_doFinally_35 (by decide) (fun c1 => ?_) (fun c1 => ?_)
      · refine g_aload_n dX0_doFinally_41 rfl ?_
        refine g_aload dX0_doFinally_42 rfl ?_
        refine g_putR 0 8 8 dX0_doFinally_44 fX0_56 rfl rfl rfl rfl ((hS1 _ _ hp1).ob 1 rfl) ?_
        refine g_iload_n dX0_doFinally_47 rfl ?_
        refine g_iret dX0_doFinally_48 rfl ?_
        subst c1
        exact ⟨_, rfl, k2 w1 hp1⟩
      · refine g_iload dX0_doFinally_38 rfl ?_
        refine g_iret dX0_doFinally_40 rfl ?_
        exact ⟨v, rfl, k1 v w1 hp1 c1⟩
set_option maxHeartbeats 4000000 in
set_option maxRecDepth 20000 in
theorem c_callTired0 {g : GE} {d : Nat} {w : GW} {Q : Option Value → GW → Prop} (hd : 3 ≤ d) {q a cl r : Nat} (hS : SK g w) (hq : gOb g w q 7) (ha : gI w 449 q = nI r) (hr : r < 4) (ho : 0 < gI w 324 (aRt g r) ∨ cl = 4) (hcl : cl ≤ 4) (k : Q (some (.int 3)) (thrF g w 10 (gI w 453 q) 0 0 (gI w 453 q) (fWeight 10 0 1))) : gM g d mX0_doCall [.ref (eB g + 1), .ref q, .int (nI cl)] w Q := by
  refine gM.of (by decide) (Nat.le_of_ble_eq_true rfl) ?_
  have o1 : gOb g w (eB g + 1) 0 := hS.ob 1 rfl
  obtain ⟨oR, -⟩ := hS.rt hr
  refine g_aload_n dX0_doCall_0 rfl ?_
  refine g_aload_n dX0_doCall_1 rfl ?_
  refine g_getI 7 1 449 dX0_doCall_2 fX0_122 rfl rfl (by assumption) ?_
  refine g_callV (d1 := d - 1) (As := [_]) 0 dX0_doCall_5 vX0_161 (by omega) (by assumption) rfl rfl (Nat.le_of_ble_eq_true rfl) ?_
  refine c_routineAt hS (fun z => absurd z (by rw [ha]; exact fun y => y.elim (nI_pos (by omega)) (nI_ge hr (by decide)))) (fun j hj hij => ?_)
  obtain rfl : j = r := (nI_eq (by omega) (by omega)).mp (hij.symm.trans ha)
  refine g_astore_n dX0_doCall_8 (by decide) rfl ?_
  refine g_aload_n dX0_doCall_9 rfl ?_
  refine g_ifnull dX0_doCall_10 ?_
  refine g_aload_n dX0_doCall_13 rfl ?_
  refine g_getI 5 4 324 dX0_doCall_14 fX0_165 rfl rfl (by assumption) ?_
  refine g_if_gt 25 dX0_doCall_17 (by decide) (fun c1 => ?_) (fun c1 => ?_)
  · refine g_aload_n dX0_doCall_25 rfl ?_
    refine g_bipushV (v := 10) dX0_doCall_26 (by decide) ?_
    refine g_aload_n dX0_doCall_28 rfl ?_
    refine g_callV (d1 := d - 1) (As := [_, _]) 0 dX0_doCall_29 vX0_95 (by omega) (by assumption) rfl rfl (Nat.le_of_ble_eq_true rfl) ?_
    refine c_throwNew (by omega) hS hq (by decide) ?_
    refine g_iret dX0_doCall_32 rfl ?_
    exact k
  · refine g_iload_n dX0_doCall_20 rfl ?_
    refine g_iconstV (v := 4) dX0_doCall_21 (by decide) ?_
    refine g_icmp_lt 33 dX0_doCall_22 (by decide) (fun c2 => ?_) (fun c2 => ?_)
    · exact absurd (ho.resolve_left c1) (fun z => absurd c2 (by rw [z]; decide))
    · refine g_aload_n dX0_doCall_25 rfl ?_
      refine g_bipushV (v := 10) dX0_doCall_26 (by decide) ?_
      refine g_aload_n dX0_doCall_28 rfl ?_
      refine g_callV (d1 := d - 1) (As := [_, _]) 0 dX0_doCall_29 vX0_95 (by omega) (by assumption) rfl rfl (Nat.le_of_ble_eq_true rfl) ?_
      refine c_throwNew (by omega) hS hq (by decide) ?_
      refine g_iret dX0_doCall_32 rfl ?_
      exact k
set_option maxHeartbeats 4000000 in
set_option maxRecDepth 20000 in
theorem c_callOn {g : GE} {d : Nat} {w : GW} {Q : Int32 → GW → Prop} {cau : Option Nat} (hd : 1 ≤ d) {q r s cl : Nat} (hS : SK g w) (hq : gOb g w q 7) (ha : gI w 449 q = nI r) (hr : r < 4) (ho : gI w 324 (aRt g r) = 0) (hcl : cl < 4) (hs : gI w 323 (aRt g r) = nI s) (P1 : Int32 → GW → Prop) (h1 : gMI g (d - 1) mX0_doSteps [.ref (eB g + 1), .ref (aRt g r), .int 0, .int (nI s), .null, .int (nI (cl + 1))] w P1) (k1 : ∀ w1, P1 3 w1 → Q 3 w1) (k2 : ∀ v w1, P1 v w1 → ¬ v = 3 → Q 0 w1) : gMI g d mX0_doCall [.ref (eB g + 1), .ref q, .int (nI cl)] w Q := by
  refine gMI_of ?_
  have o1 : gOb g w (eB g + 1) 0 := hS.ob 1 rfl
  obtain ⟨oR, -⟩ := hS.rt hr
  cases cau with
  | none =>
    refine gM.of (by decide) (Nat.le_of_ble_eq_true rfl) ?_
    refine g_aload_n dX0_doCall_0 rfl ?_
    refine g_aload_n dX0_doCall_1 rfl ?_
    refine g_getI 7 1 449 dX0_doCall_2 fX0_122 rfl rfl (by assumption) ?_
    refine g_callV (d1 := d - 1) (As := [_]) 0 dX0_doCall_5 vX0_161 (by omega) (by assumption) rfl rfl (Nat.le_of_ble_eq_true rfl) ?_
    refine c_routineAt hS (fun z => absurd z (by rw [ha]; exact fun y => y.elim (nI_pos (by omega)) (nI_ge hr (by decide)))) (fun j hj hij => ?_)
    obtain rfl : j = r := (nI_eq (by omega) (by omega)).mp (hij.symm.trans ha)
    refine g_astore_n dX0_doCall_8 (by decide) rfl ?_
    refine g_aload_n dX0_doCall_9 rfl ?_
    refine g_ifnull dX0_doCall_10 ?_
    refine g_aload_n dX0_doCall_13 rfl ?_
    refine g_getI 5 4 324 dX0_doCall_14 fX0_165 rfl rfl (by assumption) ?_
    refine g_if_gt 25 dX0_doCall_17 (by decide) (fun q => absurd q (by rw [ho]; decide)) (fun _ => ?_)
    refine g_iload_n dX0_doCall_20 rfl ?_
    refine g_iconstV (v := 4) dX0_doCall_21 (by decide) ?_
    refine g_icmp_lt 33 dX0_doCall_22 (by decide) (fun _ => ?_) (fun q => absurd (nI_lt (b := 4) hcl (by decide)) q)
    refine g_aload_n dX0_doCall_33 rfl ?_
    refine g_aload_n dX0_doCall_34 rfl ?_
    refine g_iconstV (v := 0) dX0_doCall_35 (by decide) ?_
    refine g_aload_n dX0_doCall_36 rfl ?_
    refine g_getI 5 3 323 dX0_doCall_37 fX0_60 rfl rfl oR ?_
    rw [hs]
    refine g_null dX0_doCall_40 ?_
    refine g_iload_n dX0_doCall_41 rfl ?_
    refine g_iconstV (v := 1) dX0_doCall_42 (by decide) ?_
    refine g_iadd dX0_doCall_43 ?_
    rw [show nI cl + 1 = nI (cl + 1) from nI_1 cl]
    refine g_callV (d1 := d - 1) (As := [_, _, _, _, _]) 0 dX0_doCall_44 vX0_63 (by omega) (by assumption) rfl rfl (Nat.le_of_ble_eq_true rfl) ?_
    refine gM.imp h1 (fun rv w1 _ _ hq9 => ?_)
    obtain ⟨-, v, rfl, hp1⟩ := hq9
    refine g_istore dX0_doCall_47 (by decide) rfl ?_
    refine g_iload dX0_doCall_49 rfl ?_
    refine g_iconstV (v := 3) dX0_doCall_51 (by decide) ?_
    refine g_icmp_ne 59 dX0_doCall_52 (by decide) (fun c1 => ?_) (fun c1 => ?_)
    · refine g_iconstV (v := 0) dX0_doCall_59 (by decide) ?_
      refine g_iret dX0_doCall_60 rfl ?_
      exact ⟨_, rfl, k2 v w1 hp1 c1⟩
    · refine g_iconstV (v := 3) dX0_doCall_55 (by decide) ?_
      refine g_goto 60 dX0_doCall_56 (by decide) ?_
      refine g_iret dX0_doCall_60 rfl ?_
      subst c1
      exact ⟨_, rfl, k1 w1 hp1⟩
  | some cf =>
    refine gM.of (by decide) (Nat.le_of_ble_eq_true rfl) ?_
    refine g_aload_n dX0_doCall_0 rfl ?_
    refine g_aload_n dX0_doCall_1 rfl ?_
    refine g_getI 7 1 449 dX0_doCall_2 fX0_122 rfl rfl (by assumption) ?_
    refine g_callV (d1 := d - 1) (As := [_]) 0 dX0_doCall_5 vX0_161 (by omega) (by assumption) rfl rfl (Nat.le_of_ble_eq_true rfl) ?_
    refine c_routineAt hS (fun z => absurd z (by rw [ha]; exact fun y => y.elim (nI_pos (by omega)) (nI_ge hr (by decide)))) (fun j hj hij => ?_)
    obtain rfl : j = r := (nI_eq (by omega) (by omega)).mp (hij.symm.trans ha)
    refine g_astore_n dX0_doCall_8 (by decide) rfl ?_
    refine g_aload_n dX0_doCall_9 rfl ?_
    refine g_ifnull dX0_doCall_10 ?_
    refine g_aload_n dX0_doCall_13 rfl ?_
    refine g_getI 5 4 324 dX0_doCall_14 fX0_165 rfl rfl (by assumption) ?_
    refine g_if_gt 25 dX0_doCall_17 (by decide) (fun q => absurd q (by rw [ho]; decide)) (fun _ => ?_)
    refine g_iload_n dX0_doCall_20 rfl ?_
    refine g_iconstV (v := 4) dX0_doCall_21 (by decide) ?_
    refine g_icmp_lt 33 dX0_doCall_22 (by decide) (fun _ => ?_) (fun q => absurd (nI_lt (b := 4) hcl (by decide)) q)
    refine g_aload_n dX0_doCall_33 rfl ?_
    refine g_aload_n dX0_doCall_34 rfl ?_
    refine g_iconstV (v := 0) dX0_doCall_35 (by decide) ?_
    refine g_aload_n dX0_doCall_36 rfl ?_
    refine g_getI 5 3 323 dX0_doCall_37 fX0_60 rfl rfl oR ?_
    rw [hs]
    refine g_null dX0_doCall_40 ?_
    refine g_iload_n dX0_doCall_41 rfl ?_
    refine g_iconstV (v := 1) dX0_doCall_42 (by decide) ?_
    refine g_iadd dX0_doCall_43 ?_
    rw [show nI cl + 1 = nI (cl + 1) from nI_1 cl]
    refine g_callV (d1 := d - 1) (As := [_, _, _, _, _]) 0 dX0_doCall_44 vX0_63 (by omega) (by assumption) rfl rfl (Nat.le_of_ble_eq_true rfl) ?_
    refine gM.imp h1 (fun rv w1 _ _ hq9 => ?_)
    obtain ⟨-, v, rfl, hp1⟩ := hq9
    refine g_istore dX0_doCall_47 (by decide) rfl ?_
    refine g_iload dX0_doCall_49 rfl ?_
    refine g_iconstV (v := 3) dX0_doCall_51 (by decide) ?_
    refine g_icmp_ne 59 dX0_doCall_52 (by decide) (fun c1 => ?_) (fun c1 => ?_)
    · refine g_iconstV (v := 0) dX0_doCall_59 (by decide) ?_
      refine g_iret dX0_doCall_60 rfl ?_
      exact ⟨_, rfl, k2 v w1 hp1 c1⟩
    · refine g_iconstV (v := 3) dX0_doCall_55 (by decide) ?_
      refine g_goto 60 dX0_doCall_56 (by decide) ?_
      refine g_iret dX0_doCall_60 rfl ?_
      subst c1
      exact ⟨_, rfl, k1 w1 hp1⟩
