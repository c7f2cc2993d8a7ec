set_option maxHeartbeats 4000000 in
set_option maxRecDepth 20000 in
theorem f_stepOut {g : GE} {d : Nat} {w : GW} {Q : Option Value → GW → Prop} (hd : 2 ≤ d) (hS : SK g w) {v a b c : Int32} (h : v < 0 ∨ 24 < v) (k : Q (some (.int (-1))) w) : gM g d mX9_step [.ref (eB g), .int v, .int a, .int b, .int c] w Q := by
  refine gM.of (by decide) (Nat.le_of_ble_eq_true rfl) ?_
  have o0 : gOb g w (eB g) 8 := hS.ob 0 rfl
  have r0 : gR w 512 (eB g) = some (eB g + 1) := hS.rf 512 0 1 (by decide)
  have o1 : gOb g w (eB g + 1) 0 := hS.ob 1 rfl
  have o66 : gOb g w (eB g + 66) 2 := hS.ob 66 rfl
  have r2 : gR w 2 (eB g + 1) = some (eB g + 66) := hS.rf 2 1 66 (by decide)
  have o68 : gOb g w (eB g + 68) 4 := hS.ob 68 rfl
  have r3 : gR w 3 (eB g + 1) = some (eB g + 68) := hS.rf 3 1 68 (by decide)
  refine g_iload_n dX9_step_0 rfl ?_
  refine g_iload_n dX9_step_1 rfl ?_
  refine g_iload_n dX9_step_2 rfl ?_
  refine g_iload dX9_step_3 rfl ?_
  refine g_callS (d1 := d - 1) (As := [_, _, _, _]) dX9_step_5 sX9_30 (by omega) rfl rfl (Nat.le_of_ble_eq_true rfl) ?_
  refine c_isToldNo h ?_
  refine g_if_eq 29 dX9_step_8 (by decide) (fun _ => ?_) (fun q => absurd (rfl) q)
  refine g_iconstV (v := -1) dX9_step_29 (by decide) ?_
  refine g_iret dX9_step_30 rfl ?_
  exact k
set_option maxHeartbeats 4000000 in
set_option maxRecDepth 20000 in
theorem f_stepNo {g : GE} {d : Nat} {w : GW} {Q : Option Value → GW → Prop} (hd : 2 ≤ d) (hS : SK g w) {v : Nat} {a b c : Int32} (hT : STt g) (hv : v < 25) (h : fT v a b c = 0) (k : Q (some (.int (-1))) w) : gM g d mX9_step [.ref (eB g), .int (nI v), .int a, .int b, .int c] w Q := by
  refine gM.of (by decide) (Nat.le_of_ble_eq_true rfl) ?_
  have o0 : gOb g w (eB g) 8 := hS.ob 0 rfl
  have r0 : gR w 512 (eB g) = some (eB g + 1) := hS.rf 512 0 1 (by decide)
  have o1 : gOb g w (eB g + 1) 0 := hS.ob 1 rfl
  have o66 : gOb g w (eB g + 66) 2 := hS.ob 66 rfl
  have r2 : gR w 2 (eB g + 1) = some (eB g + 66) := hS.rf 2 1 66 (by decide)
  have o68 : gOb g w (eB g + 68) 4 := hS.ob 68 rfl
  have r3 : gR w 3 (eB g + 1) = some (eB g + 68) := hS.rf 3 1 68 (by decide)
  refine g_iload_n dX9_step_0 rfl ?_
  refine g_iload_n dX9_step_1 rfl ?_
  refine g_iload_n dX9_step_2 rfl ?_
  refine g_iload dX9_step_3 rfl ?_
  refine g_callS (d1 := d - 1) (As := [_, _, _, _]) dX9_step_5 sX9_30 (by omega) rfl rfl (Nat.le_of_ble_eq_true rfl) ?_
  refine c_isTold (by omega) hT hv ?_
  refine g_if_eq 29 dX9_step_8 (by decide) (fun _ => ?_) (fun q => absurd (h) q)
  refine g_iconstV (v := -1) dX9_step_29 (by decide) ?_
  refine g_iret dX9_step_30 rfl ?_
  exact k
set_option maxHeartbeats 4000000 in
set_option maxRecDepth 20000 in
theorem f_stepOn {g : GE} {d : Nat} {w : GW} {Q : Option Value → GW → Prop} (hd : 2 ≤ d) (hS : SK g w) {r : Nat} (hr : r < 4) (ra : gR w 4 (eB g + 1) = some (aRt g r)) {v : Nat} {a b c : Int32} (hT : STt g) (hv : v < 25) (h : fT v a b c = 1) {u : Int32} {w2 : GW} (hA : Ans g (d - 1) mX5_append [.ref (aRt g r), .int (nI v), .int a, .int b, .int c] w (some (.int u)) w2) (k : Q (some (.int u)) w2) : gM g d mX9_step [.ref (eB g), .int (nI v), .int a, .int b, .int c] w Q := by
  refine gM.of (by decide) (Nat.le_of_ble_eq_true rfl) ?_
  have o0 : gOb g w (eB g) 8 := hS.ob 0 rfl
  have r0 : gR w 512 (eB g) = some (eB g + 1) := hS.rf 512 0 1 (by decide)
  have o1 : gOb g w (eB g + 1) 0 := hS.ob 1 rfl
  have o66 : gOb g w (eB g + 66) 2 := hS.ob 66 rfl
  have r2 : gR w 2 (eB g + 1) = some (eB g + 66) := hS.rf 2 1 66 (by decide)
  have o68 : gOb g w (eB g + 68) 4 := hS.ob 68 rfl
  have r3 : gR w 3 (eB g + 1) = some (eB g + 68) := hS.rf 3 1 68 (by decide)
  obtain ⟨oR, -⟩ := hS.rt hr
  refine g_iload_n dX9_step_0 rfl ?_
  refine g_iload_n dX9_step_1 rfl ?_
  refine g_iload_n dX9_step_2 rfl ?_
  refine g_iload dX9_step_3 rfl ?_
  refine g_callS (d1 := d - 1) (As := [_, _, _, _]) dX9_step_5 sX9_30 (by omega) rfl rfl (Nat.le_of_ble_eq_true rfl) ?_
  refine c_isTold (by omega) hT hv ?_
  refine g_if_eq 29 dX9_step_8 (by decide) (fun q => absurd q (by rw [h]; decide)) (fun _ => ?_)
  refine g_aload_n dX9_step_11 rfl ?_
  refine g_getR 8 0 512 dX9_step_12 fX9_10 rfl rfl (by assumption) (by assumption) ?_
  refine g_getR 0 4 4 dX9_step_15 fX9_20 rfl rfl (by assumption) (by assumption) ?_
  refine g_iload_n dX9_step_18 rfl ?_
  refine g_iload_n dX9_step_19 rfl ?_
  refine g_iload_n dX9_step_20 rfl ?_
  refine g_iload dX9_step_21 rfl ?_
  refine g_callV (d1 := d - 1) (As := [_, _, _, _]) 5 dX9_step_23 vX9_36 (by omega) (by assumption) rfl rfl (Nat.le_of_ble_eq_true rfl) ?_
  refine hA _ ?_
  refine g_goto 30 dX9_step_26 (by decide) ?_
  refine g_iret dX9_step_30 rfl ?_
  exact k
set_option maxHeartbeats 4000000 in
set_option maxRecDepth 20000 in
theorem f_choose {g : GE} {d : Nat} {w : GW} {Q : Option Value → GW → Prop} (hd : 1 ≤ d) (hS : SK g w) {v : Int32} (k1 : v < 0 ∨ nI 4 ≤ v → Q (some (.int (-1))) w) (k2 : ∀ j : Nat, j < 4 → v = nI j → Q (some (.int (gI w 323 (aRt g j)))) (setR w 4 (eB g + 1) (some (aRt g j)))) : gM g d mX9_choose [.ref (eB g), .int v] w Q := by
  refine gM.of (by decide) (Nat.le_of_ble_eq_true rfl) ?_
  have o0 : gOb g w (eB g) 8 := hS.ob 0 rfl
  have r0 : gR w 512 (eB g) = some (eB g + 1) := hS.rf 512 0 1 (by decide)
  have o1 : gOb g w (eB g + 1) 0 := hS.ob 1 rfl
  have o66 : gOb g w (eB g + 66) 2 := hS.ob 66 rfl
  have r2 : gR w 2 (eB g + 1) = some (eB g + 66) := hS.rf 2 1 66 (by decide)
  have o68 : gOb g w (eB g + 68) 4 := hS.ob 68 rfl
  have r3 : gR w 3 (eB g + 1) = some (eB g + 68) := hS.rf 3 1 68 (by decide)
  refine g_aload_n dX9_choose_0 rfl ?_
  refine g_getR 8 0 512 dX9_choose_1 fX9_10 rfl rfl (by assumption) (by assumption) ?_
  refine g_iload_n dX9_choose_4 rfl ?_
  refine g_callV (d1 := d - 1) (As := [_]) 0 dX9_choose_5 vX9_16 (by omega) (by assumption) rfl rfl (Nat.le_of_ble_eq_true rfl) ?_
  refine c_routineAt hS (fun z => ?_) (fun j hj hij => ?_)
  · refine g_astore_nN dX9_choose_8 (by decide) rfl ?_
    refine g_aload_nN dX9_choose_9 rfl ?_
    refine g_ifnonnullN dX9_choose_10 ?_
    refine g_iconstV (v := -1) dX9_choose_13 (by decide) ?_
    refine g_iret dX9_choose_14 rfl ?_
    exact k1 z
  · obtain ⟨oR, -⟩ := hS.rt hj
    refine g_astore_n dX9_choose_8 (by decide) rfl ?_
    refine g_aload_n dX9_choose_9 rfl ?_
    refine g_ifnonnull 15 dX9_choose_10 (by decide) ?_
    refine g_aload_n dX9_choose_15 rfl ?_
    refine g_getR 8 0 512 dX9_choose_16 fX9_10 rfl rfl o0 r0 ?_
    refine g_aload_n dX9_choose_19 rfl ?_
    refine g_putR 0 4 4 dX9_choose_20 fX9_20 rfl rfl rfl rfl o1 ?_
    refine g_aload_n dX9_choose_23 rfl ?_
    refine g_getI 5 3 323 dX9_choose_24 fX9_24 rfl rfl oR ?_
    refine g_iret dX9_choose_27 rfl ?_
    exact k2 j hj hij
set_option maxHeartbeats 4000000 in
set_option maxRecDepth 20000 in
theorem f_clear {g : GE} {d : Nat} {w : GW} {Q : Option Value → GW → Prop} (hd : 1 ≤ d) (hS : SK g w) {r : Nat} (hr : r < 4) (ra : gR w 4 (eB g + 1) = some (aRt g r)) (k : Q (some (.int (gI w 323 (aRt g r)))) (setR (setI (setI w 323 (aRt g r) 0) 324 (aRt g r) 0) 322 (aRt g r) none)) : gM g d mX9_clear [.ref (eB g)] w Q := by
  refine gM.of (by decide) (Nat.le_of_ble_eq_true rfl) ?_
  have o0 : gOb g w (eB g) 8 := hS.ob 0 rfl
  have r0 : gR w 512 (eB g) = some (eB g + 1) := hS.rf 512 0 1 (by decide)
  have o1 : gOb g w (eB g + 1) 0 := hS.ob 1 rfl
  have o66 : gOb g w (eB g + 66) 2 := hS.ob 66 rfl
  have r2 : gR w 2 (eB g + 1) = some (eB g + 66) := hS.rf 2 1 66 (by decide)
  have o68 : gOb g w (eB g + 68) 4 := hS.ob 68 rfl
  have r3 : gR w 3 (eB g + 1) = some (eB g + 68) := hS.rf 3 1 68 (by decide)
  obtain ⟨oR, -⟩ := hS.rt hr
  refine g_aload_n dX9_clear_0 rfl ?_
  refine g_getR 8 0 512 dX9_clear_1 fX9_10 rfl rfl (by assumption) (by assumption) ?_
  refine g_getR 0 4 4 dX9_clear_4 fX9_20 rfl rfl (by assumption) (by assumption) ?_
  refine g_callV (d1 := d - 1) (As := []) 5 dX9_clear_7 vX9_40 (by omega) (by assumption) rfl rfl (Nat.le_of_ble_eq_true rfl) ?_
  refine c_forget hS hr ?_
  refine g_iret dX9_clear_10 rfl ?_
  exact k
set_option maxHeartbeats 4000000 in
set_option maxRecDepth 20000 in
theorem f_dial {g : GE} {d : Nat} {w : GW} {Q : Option Value → GW → Prop} (hd : 1 ≤ d) (hS : SK g w) {i : Int32} (k : Q (some (.double (cAt g w i))) w) : gM g d mX9_dial [.ref (eB g), .int i] w Q := by
  refine gM.of (by decide) (Nat.le_of_ble_eq_true rfl) ?_
  have o0 : gOb g w (eB g) 8 := hS.ob 0 rfl
  have r0 : gR w 512 (eB g) = some (eB g + 1) := hS.rf 512 0 1 (by decide)
  have o1 : gOb g w (eB g + 1) 0 := hS.ob 1 rfl
  have o66 : gOb g w (eB g + 66) 2 := hS.ob 66 rfl
  have r2 : gR w 2 (eB g + 1) = some (eB g + 66) := hS.rf 2 1 66 (by decide)
  have o68 : gOb g w (eB g + 68) 4 := hS.ob 68 rfl
  have r3 : gR w 3 (eB g + 1) = some (eB g + 68) := hS.rf 3 1 68 (by decide)
  refine g_aload_n dX9_dial_0 rfl ?_
  refine g_getR 8 0 512 dX9_dial_1 fX9_10 rfl rfl (by assumption) (by assumption) ?_
  refine g_getR 0 2 2 dX9_dial_4 fX9_51 rfl rfl (by assumption) (by assumption) ?_
  refine g_iload_n dX9_dial_7 rfl ?_
  refine g_callV (d1 := d - 1) (As := [_]) 2 dX9_dial_8 vX9_55 (by omega) (by assumption) rfl rfl (Nat.le_of_ble_eq_true rfl) ?_
  refine c_at hS ?_
  refine g_dret dX9_dial_11 rfl ?_
  exact k
set_option maxHeartbeats 4000000 in
set_option maxRecDepth 20000 in
theorem f_log {g : GE} {d : Nat} {w : GW} {Q : Option Value → GW → Prop} (hd : 1 ≤ d) (hS : SK g w) {i : Int32} (k : Q (some (.double (cLog g w i))) w) : gM g d mX9_log [.ref (eB g), .int i] w Q := by
  refine gM.of (by decide) (Nat.le_of_ble_eq_true rfl) ?_
  have o0 : gOb g w (eB g) 8 := hS.ob 0 rfl
  have r0 : gR w 512 (eB g) = some (eB g + 1) := hS.rf 512 0 1 (by decide)
  have o1 : gOb g w (eB g + 1) 0 := hS.ob 1 rfl
  have o66 : gOb g w (eB g + 66) 2 := hS.ob 66 rfl
  have r2 : gR w 2 (eB g + 1) = some (eB g + 66) := hS.rf 2 1 66 (by decide)
  have o68 : gOb g w (eB g + 68) 4 := hS.ob 68 rfl
  have r3 : gR w 3 (eB g + 1) = some (eB g + 68) := hS.rf 3 1 68 (by decide)
  refine g_aload_n dX9_log_0 rfl ?_
  refine g_getR 8 0 512 dX9_log_1 fX9_10 rfl rfl (by assumption) (by assumption) ?_
  refine g_getR 0 3 3 dX9_log_4 fX9_77 rfl rfl (by assumption) (by assumption) ?_
  refine g_iload_n dX9_log_7 rfl ?_
  refine g_callV (d1 := d - 1) (As := [_]) 4 dX9_log_8 vX9_81 (by omega) (by assumption) rfl rfl (Nat.le_of_ble_eq_true rfl) ?_
  refine c_logAt hS ?_
  refine g_dret dX9_log_11 rfl ?_
  exact k
set_option maxHeartbeats 4000000 in
set_option maxRecDepth 20000 in
theorem f_isMinus {g : GE} {d : Nat} {w : GW} {Q : Option Value → GW → Prop} (hd : 1 ≤ d) (hS : SK g w) {i : Int32} (hl : DF (cLog g w i)) (k : Q (some (.int (sMin (cLog g w i)))) w) : gM g d mX9_isMinus [.ref (eB g), .int i] w Q := by
  refine gM.of (by decide) (Nat.le_of_ble_eq_true rfl) ?_
  have o0 : gOb g w (eB g) 8 := hS.ob 0 rfl
  have r0 : gR w 512 (eB g) = some (eB g + 1) := hS.rf 512 0 1 (by decide)
  have o1 : gOb g w (eB g + 1) 0 := hS.ob 1 rfl
  have o66 : gOb g w (eB g + 66) 2 := hS.ob 66 rfl
  have r2 : gR w 2 (eB g + 1) = some (eB g + 66) := hS.rf 2 1 66 (by decide)
  have o68 : gOb g w (eB g + 68) 4 := hS.ob 68 rfl
  have r3 : gR w 3 (eB g + 1) = some (eB g + 68) := hS.rf 3 1 68 (by decide)
  refine g_aload_n dX9_isMinus_0 rfl ?_
  refine g_getR 8 0 512 dX9_isMinus_1 fX9_10 rfl rfl (by assumption) (by assumption) ?_
  refine g_getR 0 3 3 dX9_isMinus_4 fX9_77 rfl rfl (by assumption) (by assumption) ?_
  refine g_iload_n dX9_isMinus_7 rfl ?_
  refine g_callV (d1 := d - 1) (As := [_]) 4 dX9_isMinus_8 vX9_81 (by omega) (by assumption) rfl rfl (Nat.le_of_ble_eq_true rfl) ?_
  refine c_logAt hS ?_
  refine g_callS (d1 := d - 1) (As := [_]) dX9_isMinus_11 sX9_84 (by omega) rfl rfl (Nat.le_of_ble_eq_true rfl) ?_
  refine c_hasMinus hl ?_
  refine g_zret dX9_isMinus_14 rfl (zb_of (sMin_01 _)) ?_
  exact k
set_option maxHeartbeats 4000000 in
set_option maxRecDepth 20000 in
theorem f_size {g : GE} {d : Nat} {w : GW} {Q : Option Value → GW → Prop} (hd : 3 ≤ d) (hS : SK g w) {v : Int32} (k1 : v < 0 ∨ nI 18 ≤ v → Q (some (.int (-2))) w) (k2 : ∀ j : Nat, j < 18 → v = nI j → Q (some (.int (gI w 387 (aRow g j)))) w) : gM g d mX9_size [.ref (eB g), .int v] w Q := by
  refine gM.of (by decide) (Nat.le_of_ble_eq_true rfl) ?_
  have o0 : gOb g w (eB g) 8 := hS.ob 0 rfl
  have r0 : gR w 512 (eB g) = some (eB g + 1) := hS.rf 512 0 1 (by decide)
  have o1 : gOb g w (eB g + 1) 0 := hS.ob 1 rfl
  have o66 : gOb g w (eB g + 66) 2 := hS.ob 66 rfl
  have r2 : gR w 2 (eB g + 1) = some (eB g + 66) := hS.rf 2 1 66 (by decide)
  have o68 : gOb g w (eB g + 68) 4 := hS.ob 68 rfl
  have r3 : gR w 3 (eB g + 1) = some (eB g + 68) := hS.rf 3 1 68 (by decide)
  refine g_aload_n dX9_size_0 rfl ?_
  refine g_getR 8 0 512 dX9_size_1 fX9_10 rfl rfl (by assumption) (by assumption) ?_
  refine g_iload_n dX9_size_4 rfl ?_
  refine g_callV (d1 := d - 1) (As := [_]) 0 dX9_size_5 vX9_61 (by omega) (by assumption) rfl rfl (Nat.le_of_ble_eq_true rfl) ?_
  refine c_rowAt hS (fun z => ?_) (fun j hj hij => ?_)
  · refine g_astore_nN dX9_size_8 (by decide) rfl ?_
    refine g_aload_nN dX9_size_9 rfl ?_
    refine g_ifnonnullN dX9_size_10 ?_
    refine g_bipushV (v := -2) dX9_size_13 (by decide) ?_
    refine g_goto 22 dX9_size_15 (by decide) ?_
    refine g_iret dX9_size_22 rfl ?_
    exact k1 z
  · obtain ⟨oR, -⟩ := hS.row hj
    refine g_astore_n dX9_size_8 (by decide) rfl ?_
    refine g_aload_n dX9_size_9 rfl ?_
    refine g_ifnonnull 18 dX9_size_10 (by decide) ?_
    refine g_aload_n dX9_size_18 rfl ?_
    refine g_getI 6 3 387 dX9_size_19 fX9_65 rfl rfl oR ?_
    refine g_iret dX9_size_22 rfl ?_
    exact k2 j hj hij
set_option maxHeartbeats 4000000 in
set_option maxRecDepth 20000 in
theorem f_value {g : GE} {d : Nat} {w : GW} {Q : Option Value → GW → Prop} (hd : 3 ≤ d) (hS : SK g w) {v : Int32} {i : Int32} (k1 : v < 0 ∨ nI 18 ≤ v → Q (some (.double FP.dconst0)) w) (k2 : ∀ j : Nat, j < 18 → v = nI j → Q (some (.double (cGot g w j i))) w) : gM g d mX9_value [.ref (eB g), .int v, .int i] w Q := by
  refine gM.of (by decide) (Nat.le_of_ble_eq_true rfl) ?_
  have o0 : gOb g w (eB g) 8 := hS.ob 0 rfl
  have r0 : gR w 512 (eB g) = some (eB g + 1) := hS.rf 512 0 1 (by decide)
  have o1 : gOb g w (eB g + 1) 0 := hS.ob 1 rfl
  have o66 : gOb g w (eB g + 66) 2 := hS.ob 66 rfl
  have r2 : gR w 2 (eB g + 1) = some (eB g + 66) := hS.rf 2 1 66 (by decide)
  have o68 : gOb g w (eB g + 68) 4 := hS.ob 68 rfl
  have r3 : gR w 3 (eB g + 1) = some (eB g + 68) := hS.rf 3 1 68 (by decide)
  refine g_aload_n dX9_value_0 rfl ?_
  refine g_getR 8 0 512 dX9_value_1 fX9_10 rfl rfl (by assumption) (by assumption) ?_
  refine g_iload_n dX9_value_4 rfl ?_
  refine g_callV (d1 := d - 1) (As := [_]) 0 dX9_value_5 vX9_61 (by omega) (by assumption) rfl rfl (Nat.le_of_ble_eq_true rfl) ?_
  refine c_rowAt hS (fun z => ?_) (fun j hj hij => ?_)
  · refine g_astore_nN dX9_value_8 (by decide) rfl ?_
    refine g_aload_nN dX9_value_9 rfl ?_
    refine g_ifnonnullN dX9_value_10 ?_
    refine g_dconst0 dX9_value_13 ?_
    refine g_goto 22 dX9_value_14 (by decide) ?_
    refine g_dret dX9_value_22 rfl ?_
    exact k1 z
  · obtain ⟨oR, -⟩ := hS.row hj
    refine g_astore_n dX9_value_8 (by decide) rfl ?_
    refine g_aload_n dX9_value_9 rfl ?_
    refine g_ifnonnull 17 dX9_value_10 (by decide) ?_
    refine g_aload_n dX9_value_17 rfl ?_
    refine g_iload_n dX9_value_18 rfl ?_
    refine g_callV (d1 := d - 1) (As := [_]) 6 dX9_value_19 vX9_70 (by omega) oR rfl rfl (Nat.le_of_ble_eq_true rfl) ?_
    refine c_got (by omega) hS hj ?_
    refine g_dret dX9_value_22 rfl ?_
    exact k2 j hj hij
theorem cProbe_01 (g : GE) (w : GW) (r : Nat) (i : Int32) : cProbe g w r i = 0 ∨ cProbe g w r i = 1 := by
  unfold cProbe
  split
  · exact Or.inr rfl
  · exact Or.inl rfl
set_option maxHeartbeats 4000000 in
set_option maxRecDepth 20000 in
theorem f_isFitted {g : GE} {d : Nat} {w : GW} {Q : Option Value → GW → Prop} (hd : 3 ≤ d) (hS : SK g w) {v : Int32} {i : Int32} (k1 : v < 0 ∨ nI 18 ≤ v → Q (some (.int 0)) w) (k2 : ∀ j : Nat, j < 18 → v = nI j → Q (some (.int (cProbe g w j i))) w) : gM g d mX9_isFitted [.ref (eB g), .int v, .int i] w Q := by
  refine gM.of (by decide) (Nat.le_of_ble_eq_true rfl) ?_
  have o0 : gOb g w (eB g) 8 := hS.ob 0 rfl
  have r0 : gR w 512 (eB g) = some (eB g + 1) := hS.rf 512 0 1 (by decide)
  have o1 : gOb g w (eB g + 1) 0 := hS.ob 1 rfl
  have o66 : gOb g w (eB g + 66) 2 := hS.ob 66 rfl
  have r2 : gR w 2 (eB g + 1) = some (eB g + 66) := hS.rf 2 1 66 (by decide)
  have o68 : gOb g w (eB g + 68) 4 := hS.ob 68 rfl
  have r3 : gR w 3 (eB g + 1) = some (eB g + 68) := hS.rf 3 1 68 (by decide)
  refine g_aload_n dX9_isFitted_0 rfl ?_
  refine g_getR 8 0 512 dX9_isFitted_1 fX9_10 rfl rfl (by assumption) (by assumption) ?_
  refine g_iload_n dX9_isFitted_4 rfl ?_
  refine g_callV (d1 := d - 1) (As := [_]) 0 dX9_isFitted_5 vX9_61 (by omega) (by assumption) rfl rfl (Nat.le_of_ble_eq_true rfl) ?_
  refine c_rowAt hS (fun z => ?_) (fun j hj hij => ?_)
  · refine g_astore_nN dX9_isFitted_8 (by decide) rfl ?_
    refine g_aload_nN dX9_isFitted_9 rfl ?_
    refine g_ifnullN 25 dX9_isFitted_10 (by decide) ?_
    refine g_iconstV (v := 0) dX9_isFitted_25 (by decide) ?_
    refine g_zret dX9_isFitted_26 rfl rfl ?_
    exact k1 z
  · obtain ⟨oR, -⟩ := hS.row hj
    refine g_astore_n dX9_isFitted_8 (by decide) rfl ?_
    refine g_aload_n dX9_isFitted_9 rfl ?_
    refine g_ifnull dX9_isFitted_10 ?_
    refine g_aload_n dX9_isFitted_13 rfl ?_
    refine g_iload_n dX9_isFitted_14 rfl ?_
    refine g_callV (d1 := d - 1) (As := [_]) 6 dX9_isFitted_15 vX9_73 (by omega) oR rfl rfl (Nat.le_of_ble_eq_true rfl) ?_
    refine c_holdsProbe (by omega) hS hj ?_
    have k3 := k2 j hj hij
    refine g_if_eq 25 dX9_isFitted_18 (by decide) (fun c1 => ?_) (fun c1 => ?_)
    · refine g_iconstV (v := 0) dX9_isFitted_25 (by decide) ?_
      refine g_zret dX9_isFitted_26 rfl rfl ?_
      rw [c1] at k3
      exact k3
    · refine g_iconstV (v := 1) dX9_isFitted_21 (by decide) ?_
      refine g_goto 26 dX9_isFitted_22 (by decide) ?_
      refine g_zret dX9_isFitted_26 rfl rfl ?_
      rw [(cProbe_01 g w j i).resolve_left c1] at k3
      exact k3
def cCount (g : GE) (w : GW) (r : Nat) (v : Int32) : Int32 := if v = 0 then gI w 323 (aRt g r) else if v = 1 then gI w 324 (aRt g r) else if v = 2 then gI w 5 (eB g + 1) else if v = 3 then gI w 257 (eB g + 68) else if v = 4 then gI w 6 (eB g + 1) else if v = 5 then gI w 7 (eB g + 1) else -1
def cFaultV (w : GW) (f : Nat) (v : Int32) : Int32 := if v = 0 then gI w 192 f else if v = 1 then gI w 193 f else if v = 2 then gI w 197 f else if v = 3 then gI w 194 f else if v = 4 then gI w 195 f else if v = 5 then gI w 196 f else -1
set_option maxHeartbeats 4000000 in
set_option maxRecDepth 20000 in
theorem f_count {g : GE} {d : Nat} {w : GW} {Q : Option Value → GW → Prop} (hS : SK g w) {r : Nat} (hr : r < 4) (ra : gR w 4 (eB g + 1) = some (aRt g r)) {v : Int32} (k : Q (some (.int (cCount g w r v))) w) : gM g d mX9_count [.ref (eB g), .int v] w Q := by
  refine gM.of (by decide) (Nat.le_of_ble_eq_true rfl) ?_
  have o0 : gOb g w (eB g) 8 := hS.ob 0 rfl
  have r0 : gR w 512 (eB g) = some (eB g + 1) := hS.rf 512 0 1 (by decide)
  have o1 : gOb g w (eB g + 1) 0 := hS.ob 1 rfl
  have o66 : gOb g w (eB g + 66) 2 := hS.ob 66 rfl
  have r2 : gR w 2 (eB g + 1) = some (eB g + 66) := hS.rf 2 1 66 (by decide)
  have o68 : gOb g w (eB g + 68) 4 := hS.ob 68 rfl
  have r3 : gR w 3 (eB g + 1) = some (eB g + 68) := hS.rf 3 1 68 (by decide)
  obtain ⟨oR, -⟩ := hS.rt hr
  refine g_iload_n dX9_count_0 rfl ?_
  refine g_tsw dX9_count_1 [40, 51, 62, 70, 81, 89] 97 (by decide) (by decide) (by decide) (by decide) (by decide) ?_ (fun c1 => ?_)
  · simp only [tswK]
    refine ⟨fun c1 => ?_, fun c1 => ?_, fun c1 => ?_, fun c1 => ?_, fun c1 => ?_, fun c1 => ?_, trivial⟩
    · replace c1 := c1.trans (by decide : _ = (0 : Int32))
      refine g_aload_n dX9_count_40 rfl ?_
      refine g_getR 8 0 512 dX9_count_41 fX9_10 rfl rfl (by assumption) (by assumption) ?_
      refine g_getR 0 4 4 dX9_count_44 fX9_20 rfl rfl (by assumption) (by assumption) ?_
      refine g_getI 5 3 323 dX9_count_47 fX9_24 rfl rfl (by assumption) ?_
      refine g_iret dX9_count_50 rfl ?_
      simpa [cCount, c1] using k
    · replace c1 := c1.trans (by decide : _ = (1 : Int32))
      refine g_aload_n dX9_count_51 rfl ?_
      refine g_getR 8 0 512 dX9_count_52 fX9_10 rfl rfl (by assumption) (by assumption) ?_
      refine g_getR 0 4 4 dX9_count_55 fX9_20 rfl rfl (by assumption) (by assumption) ?_
      refine g_getI 5 4 324 dX9_count_58 fX9_44 rfl rfl (by assumption) ?_
      refine g_iret dX9_count_61 rfl ?_
      simpa [cCount, c1] using k
    · replace c1 := c1.trans (by decide : _ = (2 : Int32))
      refine g_aload_n dX9_count_62 rfl ?_
      refine g_getR 8 0 512 dX9_count_63 fX9_10 rfl rfl (by assumption) (by assumption) ?_
      refine g_getI 0 5 5 dX9_count_66 fX9_90 rfl rfl (by assumption) ?_
      refine g_iret dX9_count_69 rfl ?_
      simpa [cCount, c1] using k
    · replace c1 := c1.trans (by decide : _ = (3 : Int32))
      refine g_aload_n dX9_count_70 rfl ?_
      refine g_getR 8 0 512 dX9_count_71 fX9_10 rfl rfl (by assumption) (by assumption) ?_
      refine g_getR 0 3 3 dX9_count_74 fX9_77 rfl rfl (by assumption) (by assumption) ?_
      refine g_getI 4 1 257 dX9_count_77 fX9_93 rfl rfl (by assumption) ?_
      refine g_iret dX9_count_80 rfl ?_
      simpa [cCount, c1] using k
    · replace c1 := c1.trans (by decide : _ = (4 : Int32))
      refine g_aload_n dX9_count_81 rfl ?_
      refine g_getR 8 0 512 dX9_count_82 fX9_10 rfl rfl (by assumption) (by assumption) ?_
      refine g_getI 0 6 6 dX9_count_85 fX9_94 rfl rfl (by assumption) ?_
      refine g_iret dX9_count_88 rfl ?_
      simpa [cCount, c1] using k
    · replace c1 := c1.trans (by decide : _ = (5 : Int32))
      refine g_aload_n dX9_count_89 rfl ?_
      refine g_getR 8 0 512 dX9_count_90 fX9_10 rfl rfl (by assumption) (by assumption) ?_
      refine g_getI 0 7 7 dX9_count_93 fX9_97 rfl rfl (by assumption) ?_
      refine g_iret dX9_count_96 rfl ?_
      simpa [cCount, c1] using k
  · have c1n0 := tsw_ne c1 0 (by decide)
    have c1n1 := tsw_ne c1 1 (by decide)
    have c1n2 := tsw_ne c1 2 (by decide)
    have c1n3 := tsw_ne c1 3 (by decide)
    have c1n4 := tsw_ne c1 4 (by decide)
    have c1n5 := tsw_ne c1 5 (by decide)
    refine g_iconstV (v := -1) dX9_count_97 (by decide) ?_
    refine g_iret dX9_count_98 rfl ?_
    simpa [cCount, c1n0, c1n1, c1n2, c1n3, c1n4, c1n5] using k
set_option maxHeartbeats 4000000 in
set_option maxRecDepth 20000 in
theorem f_faultNo {g : GE} {d : Nat} {w : GW} {Q : Option Value → GW → Prop} (hS : SK g w) {v : Int32} (h8 : gR w 8 (eB g + 1) = none) (k : Q (some (.int (-1))) w) : gM g d mX9_fault [.ref (eB g), .int v] w Q := by
  refine gM.of (by decide) (Nat.le_of_ble_eq_true rfl) ?_
  have o0 : gOb g w (eB g) 8 := hS.ob 0 rfl
  have r0 : gR w 512 (eB g) = some (eB g + 1) := hS.rf 512 0 1 (by decide)
  have o1 : gOb g w (eB g + 1) 0 := hS.ob 1 rfl
  have o66 : gOb g w (eB g + 66) 2 := hS.ob 66 rfl
  have r2 : gR w 2 (eB g + 1) = some (eB g + 66) := hS.rf 2 1 66 (by decide)
  have o68 : gOb g w (eB g + 68) 4 := hS.ob 68 rfl
  have r3 : gR w 3 (eB g + 1) = some (eB g + 68) := hS.rf 3 1 68 (by decide)
  refine g_aload_n dX9_fault_0 rfl ?_
  refine g_getR 8 0 512 dX9_fault_1 fX9_10 rfl rfl (by assumption) (by assumption) ?_
  refine g_getN 0 8 8 dX9_fault_4 fX9_100 rfl rfl o1 h8 ?_
  refine g_astore_nN dX9_fault_7 (by decide) rfl ?_
  refine g_aload_nN dX9_fault_8 rfl ?_
  refine g_ifnonnullN dX9_fault_9 ?_
  refine g_iconstV (v := -1) dX9_fault_12 (by decide) ?_
  refine g_iret dX9_fault_13 rfl ?_
  exact k
set_option maxHeartbeats 4000000 in
set_option maxRecDepth 20000 in
theorem f_faultYes {g : GE} {d : Nat} {w : GW} {Q : Option Value → GW → Prop} (hS : SK g w) {v : Int32} {f : Nat} (h8 : gR w 8 (eB g + 1) = some f) (of : gOb g w f 3) (k : Q (some (.int (cFaultV w f v))) w) : gM g d mX9_fault [.ref (eB g), .int v] w Q := by
  refine gM.of (by decide) (Nat.le_of_ble_eq_true rfl) ?_
  have o0 : gOb g w (eB g) 8 := hS.ob 0 rfl
  have r0 : gR w 512 (eB g) = some (eB g + 1) := hS.rf 512 0 1 (by decide)
  have o1 : gOb g w (eB g + 1) 0 := hS.ob 1 rfl
  have o66 : gOb g w (eB g + 66) 2 := hS.ob 66 rfl
  have r2 : gR w 2 (eB g + 1) = some (eB g + 66) := hS.rf 2 1 66 (by decide)
  have o68 : gOb g w (eB g + 68) 4 := hS.ob 68 rfl
  have r3 : gR w 3 (eB g + 1) = some (eB g + 68) := hS.rf 3 1 68 (by decide)
  refine g_aload_n dX9_fault_0 rfl ?_
  refine g_getR 8 0 512 dX9_fault_1 fX9_10 rfl rfl (by assumption) (by assumption) ?_
  refine g_getR 0 8 8 dX9_fault_4 fX9_100 rfl rfl (by assumption) (by assumption) ?_
  refine g_astore_n dX9_fault_7 (by decide) rfl ?_
  refine g_aload_n dX9_fault_8 rfl ?_
  refine g_ifnonnull 14 dX9_fault_9 (by decide) ?_
  refine g_iload_n dX9_fault_14 rfl ?_
  refine g_tsw dX9_fault_15 [52, 57, 62, 67, 72, 77] 82 (by decide) (by decide) (by decide) (by decide) (by decide) ?_ (fun c1 => ?_)
  · simp only [tswK]
    refine ⟨fun c1 => ?_, fun c1 => ?_, fun c1 => ?_, fun c1 => ?_, fun c1 => ?_, fun c1 => ?_, trivial⟩
    · replace c1 := c1.trans (by decide : _ = (0 : Int32))
      refine g_aload_n dX9_fault_52 rfl ?_
      refine g_getI 3 0 192 dX9_fault_53 fX9_104 rfl rfl (by assumption) ?_
      refine g_iret dX9_fault_56 rfl ?_
      simpa [cFaultV, c1] using k
    · replace c1 := c1.trans (by decide : _ = (1 : Int32))
      refine g_aload_n dX9_fault_57 rfl ?_
      refine g_getI 3 1 193 dX9_fault_58 fX9_109 rfl rfl (by assumption) ?_
      refine g_iret dX9_fault_61 rfl ?_
      simpa [cFaultV, c1] using k
    · replace c1 := c1.trans (by decide : _ = (2 : Int32))
      refine g_aload_n dX9_fault_62 rfl ?_
      refine g_getI 3 5 197 dX9_fault_63 fX9_112 rfl rfl (by assumption) ?_
      refine g_iret dX9_fault_66 rfl ?_
      simpa [cFaultV, c1] using k
    · replace c1 := c1.trans (by decide : _ = (3 : Int32))
      refine g_aload_n dX9_fault_67 rfl ?_
      refine g_getI 3 2 194 dX9_fault_68 fX9_115 rfl rfl (by assumption) ?_
      refine g_iret dX9_fault_71 rfl ?_
      simpa [cFaultV, c1] using k
    · replace c1 := c1.trans (by decide : _ = (4 : Int32))
      refine g_aload_n dX9_fault_72 rfl ?_
      refine g_getI 3 3 195 dX9_fault_73 fX9_118 rfl rfl (by assumption) ?_
      refine g_iret dX9_fault_76 rfl ?_
      simpa [cFaultV, c1] using k
    · replace c1 := c1.trans (by decide : _ = (5 : Int32))
      refine g_aload_n dX9_fault_77 rfl ?_
      refine g_getI 3 4 196 dX9_fault_78 fX9_121 rfl rfl (by assumption) ?_
      refine g_iret dX9_fault_81 rfl ?_
      simpa [cFaultV, c1] using k
  · have c1n0 := tsw_ne c1 0 (by decide)
    have c1n1 := tsw_ne c1 1 (by decide)
    have c1n2 := tsw_ne c1 2 (by decide)
    have c1n3 := tsw_ne c1 3 (by decide)
    have c1n4 := tsw_ne c1 4 (by decide)
    have c1n5 := tsw_ne c1 5 (by decide)
    refine g_iconstV (v := -1) dX9_fault_82 (by decide) ?_
    refine g_iret dX9_fault_83 rfl ?_
    simpa [cFaultV, c1n0, c1n1, c1n2, c1n3, c1n4, c1n5] using k
set_option maxHeartbeats 4000000 in
set_option maxRecDepth 20000 in
theorem m_stepOut {g : GE} {d : Nat} {w : GW} {σ : MW} {Q : Option Value → GW → Prop} (hd : 3 ≤ d) (hS : SK g w) {v a b c : Int32} (h : v.toInt < 0 ∨ 24 < v.toInt) (k : Q (some (.int (-1))) (put g σ w)) : gM g d mX10_step [.ref (eB g + 70), .int v, .int a, .int b, .int c] (put g σ w) Q := by
  refine gM.of (by decide) (Nat.le_of_ble_eq_true rfl) ?_
  refine g_iload_n dX10_step_0 rfl ?_
  refine g_iload_n dX10_step_1 rfl ?_
  refine g_iload_n dX10_step_2 rfl ?_
  refine g_iload dX10_step_3 rfl ?_
  refine g_callS (d1 := d - 1) (As := [_, _, _, _]) dX10_step_5 sX10_125 (by omega) rfl rfl (Nat.le_of_ble_eq_true rfl) ?_
  refine m_areTold (by omega) (fun j hj e => absurd h (by rw [e, nI_toInt (by omega)]; omega)) (fun _ => ?_)
  refine g_if_ne 13 dX10_step_8 (by decide) (fun q => absurd (rfl) q) (fun _ => ?_)
  refine g_iconstV (v := -1) dX10_step_11 (by decide) ?_
  refine g_iret dX10_step_12 rfl ?_
  exact k
