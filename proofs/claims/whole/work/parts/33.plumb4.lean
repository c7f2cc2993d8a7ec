set_option maxHeartbeats 4000000 in
set_option maxRecDepth 20000 in
theorem c_doTry_tail_n {g : GE} {d : Nat} {Q : Int32 → GW → Prop} (hd : 2 ≤ d) {q p rt cl : Nat} (R : Int32 → GW → Prop) (hR : ∀ v w2, R v w2 → SK g w2 ∧ gOb g w2 q 7 ∧ gR w2 455 q = some p ∧ ∃ (n : Nat) (res : Option Nat), cFP g w2 n p res ∧ (res = none → Q v w2) ∧ (∀ qf, res = some qf → gMI g (d - 1) mX0_doFinally [.ref (eB g + 1), .ref rt, .ref qf, .int v, .null, .int (nI cl)] w2 Q)) : ∀ (v : Int32) (w2 : GW), R v w2 → ∀ ls : List (Nat × Value), ls.lookup 0 = some (.ref (eB g + 1)) → ls.lookup 1 = some (.ref rt) → ls.lookup 2 = some (.ref q) → ls.lookup 3 = some (Value.null) → ls.lookup 4 = some (.int (nI cl)) → ls.lookup 5 = some (.int v) → gF g d mX0_doTry 70 ls [] w2 (fun r w9 => ∃ v : Int32, r = some (.int v) ∧ Q v w9) := by
  intro v w2 hRv ls h0 h1 h2 h3 h4 h5
  obtain ⟨hS, hq, hp, n, res, hcf, hk1, hk2⟩ := hR v w2 hRv
  have o1 : gOb g w2 (eB g + 1) 0 := hS.ob 1 rfl
  cases res with
  | none =>
    refine g_aload_n dX0_doTry_70 h2 ?_
    refine g_callV (d1 := d - 1) (As := []) 7 dX0_doTry_71 vX0_153 (by omega) (by assumption) rfl rfl (Nat.le_of_ble_eq_true rfl) ?_
    refine c_finallyPart hq hp hcf ?_
    refine g_astoreN dX0_doTry_74 (by decide) rfl ?_
    refine g_aloadN dX0_doTry_76 rfl ?_
    refine g_ifnonnullN dX0_doTry_78 ?_
    refine g_iload dX0_doTry_81 (lk h5 (by decide) rfl) ?_
    refine g_goto 98 dX0_doTry_83 (by decide) ?_
    refine g_iret dX0_doTry_98 rfl ?_
    exact ⟨v, rfl, hk1 rfl⟩
  | some qf =>
    refine g_aload_n dX0_doTry_70 h2 ?_
    refine g_callV (d1 := d - 1) (As := []) 7 dX0_doTry_71 vX0_153 (by omega) (by assumption) rfl rfl (Nat.le_of_ble_eq_true rfl) ?_
    refine c_finallyPart hq hp hcf ?_
    refine g_astore dX0_doTry_74 (by decide) rfl ?_
    refine g_aload dX0_doTry_76 rfl ?_
    refine g_ifnonnull 86 dX0_doTry_78 (by decide) ?_
    refine g_aload_n dX0_doTry_86 (lk h0 (by decide) rfl) ?_
    refine g_aload_n dX0_doTry_87 (lk h1 (by decide) rfl) ?_
    refine g_aload dX0_doTry_88 rfl ?_
    refine g_iload dX0_doTry_90 (lk h5 (by decide) rfl) ?_
    refine g_aload_nN dX0_doTry_92 (lk h3 (by decide) rfl) ?_
    refine g_iload dX0_doTry_93 (lk h4 (by decide) rfl) ?_
    refine g_callV (d1 := d - 1) (As := [_, _, _, _, _]) 0 dX0_doTry_95 vX0_157 (by omega) (by assumption) rfl rfl (Nat.le_of_ble_eq_true rfl) ?_
    refine gM.imp (hk2 qf rfl) (fun rv w9 _ _ hq9 => ?_)
    obtain ⟨-, v9, rfl, hq9⟩ := hq9
    refine g_iret dX0_doTry_98 rfl ?_
    exact ⟨v9, rfl, hq9⟩
set_option maxHeartbeats 4000000 in
set_option maxRecDepth 20000 in
theorem c_doTry_tail_s {g : GE} {d : Nat} {Q : Int32 → GW → Prop} {cf : Nat} (hd : 2 ≤ d) {q p rt cl : Nat} (R : Int32 → GW → Prop) (hR : ∀ v w2, R v w2 → SK g w2 ∧ gOb g w2 q 7 ∧ gR w2 455 q = some p ∧ ∃ (n : Nat) (res : Option Nat), cFP g w2 n p res ∧ (res = none → Q v w2) ∧ (∀ qf, res = some qf → gMI g (d - 1) mX0_doFinally [.ref (eB g + 1), .ref rt, .ref qf, .int v, .ref cf, .int (nI cl)] w2 Q)) : ∀ (v : Int32) (w2 : GW), R v w2 → ∀ ls : List (Nat × Value), ls.lookup 0 = some (.ref (eB g + 1)) → ls.lookup 1 = some (.ref rt) → ls.lookup 2 = some (.ref q) → ls.lookup 3 = some (Value.ref cf) → ls.lookup 4 = some (.int (nI cl)) → ls.lookup 5 = some (.int v) → gF g d mX0_doTry 70 ls [] w2 (fun r w9 => ∃ v : Int32, r = some (.int v) ∧ Q v w9) := by
  intro v w2 hRv ls h0 h1 h2 h3 h4 h5
  obtain ⟨hS, hq, hp, n, res, hcf, hk1, hk2⟩ := hR v w2 hRv
  have o1 : gOb g w2 (eB g + 1) 0 := hS.ob 1 rfl
  cases res with
  | none =>
    refine g_aload_n dX0_doTry_70 h2 ?_
    refine g_callV (d1 := d - 1) (As := []) 7 dX0_doTry_71 vX0_153 (by omega) (by assumption) rfl rfl (Nat.le_of_ble_eq_true rfl) ?_
    refine c_finallyPart hq hp hcf ?_
    refine g_astoreN dX0_doTry_74 (by decide) rfl ?_
    refine g_aloadN dX0_doTry_76 rfl ?_
    refine g_ifnonnullN dX0_doTry_78 ?_
    refine g_iload dX0_doTry_81 (lk h5 (by decide) rfl) ?_
    refine g_goto 98 dX0_doTry_83 (by decide) ?_
    refine g_iret dX0_doTry_98 rfl ?_
    exact ⟨v, rfl, hk1 rfl⟩
  | some qf =>
    refine g_aload_n dX0_doTry_70 h2 ?_
    refine g_callV (d1 := d - 1) (As := []) 7 dX0_doTry_71 vX0_153 (by omega) (by assumption) rfl rfl (Nat.le_of_ble_eq_true rfl) ?_
    refine c_finallyPart hq hp hcf ?_
    refine g_astore dX0_doTry_74 (by decide) rfl ?_
    refine g_aload dX0_doTry_76 rfl ?_
    refine g_ifnonnull 86 dX0_doTry_78 (by decide) ?_
    refine g_aload_n dX0_doTry_86 (lk h0 (by decide) rfl) ?_
    refine g_aload_n dX0_doTry_87 (lk h1 (by decide) rfl) ?_
    refine g_aload dX0_doTry_88 rfl ?_
    refine g_iload dX0_doTry_90 (lk h5 (by decide) rfl) ?_
    refine g_aload_n dX0_doTry_92 (lk h3 (by decide) rfl) ?_
    refine g_iload dX0_doTry_93 (lk h4 (by decide) rfl) ?_
    refine g_callV (d1 := d - 1) (As := [_, _, _, _, _]) 0 dX0_doTry_95 vX0_157 (by omega) (by assumption) rfl rfl (Nat.le_of_ble_eq_true rfl) ?_
    refine gM.imp (hk2 qf rfl) (fun rv w9 _ _ hq9 => ?_)
    obtain ⟨-, v9, rfl, hq9⟩ := hq9
    refine g_iret dX0_doTry_98 rfl ?_
    exact ⟨v9, rfl, hq9⟩
set_option maxHeartbeats 4000000 in
set_option maxRecDepth 20000 in
theorem c_doTry {g : GE} {d : Nat} {w : GW} {Q : Int32 → GW → Prop} {cau : Option Nat} (hd : 2 ≤ d) {q p rt cl : Nat} (R : Int32 → GW → Prop) (hR : ∀ v w2, R v w2 → SK g w2 ∧ gOb g w2 q 7 ∧ gR w2 455 q = some p ∧ ∃ (n : Nat) (res : Option Nat), cFP g w2 n p res ∧ (res = none → Q v w2) ∧ (∀ qf, res = some qf → gMI g (d - 1) mX0_doFinally [.ref (eB g + 1), .ref rt, .ref qf, .int v, va_rf cau, .int (nI cl)] w2 Q)) (hS : SK g w) (hq : gOb g w q 7) (hl : eOL g 4 = 12) (ha : ∀ j, j < 12 → eOF g 4 j = aTab j) (P1 : Int32 → GW → Prop) (h1 : gMI g (d - 1) mX0_doPart [.ref (eB g + 1), .ref rt, .ref q, va_rf cau, .int (nI cl)] w P1) (hS1 : ∀ v w1, P1 v w1 → SK g w1 ∧ gOb g w1 q 7 ∧ gR w1 455 q = some p) (hno : ∀ v w1, P1 v w1 → gR w1 8 (eB g + 1) = none → R v w1) (hth : ∀ v w1 f, P1 v w1 → gR w1 8 (eB g + 1) = some f → ∃ (kd n : Nat) (res : Option Nat), kd < 12 ∧ gOb g w1 f 3 ∧ gI w1 192 f = nI kd ∧ cCP g w1 kd n p res ∧ (res = none → R v w1) ∧ (∀ qc, res = some qc → gMI g (d - 1) mX0_doPart [.ref (eB g + 1), .ref rt, .ref qc, .ref f, .int (nI cl)] (setI (setR w1 8 (eB g + 1) none) 6 (eB g + 1) (gI w1 6 (eB g + 1) + 1)) R)) : gMI g d mX0_doTry [.ref (eB g + 1), .ref rt, .ref q, va_rf cau, .int (nI cl)] w Q := by
  refine gMI_of ?_
  have o1 : gOb g w (eB g + 1) 0 := hS.ob 1 rfl
  cases cau with
  | none =>
    refine gM.of (by decide) (Nat.le_of_ble_eq_true rfl) ?_
    refine g_aload_n dX0_doTry_0 rfl ?_
    refine g_aload_n dX0_doTry_1 rfl ?_
    refine g_aload_n dX0_doTry_2 rfl ?_
    refine g_aload_nN dX0_doTry_3 rfl ?_
    refine g_iload dX0_doTry_4 rfl ?_
    refine g_callV (d1 := d - 1) (As := [_, _, _, _]) 0 dX0_doTry_6 vX0_112 (by omega) (by assumption) rfl rfl (Nat.le_of_ble_eq_true rfl) ?_
    refine gM.imp h1 (fun rv w1 _ _ hq9 => ?_)
    obtain ⟨-, v, rfl, hp1⟩ := hq9
    obtain ⟨hS2, hq2, hp2⟩ := hS1 v w1 hp1
    have o2 : gOb g w1 (eB g + 1) 0 := hS2.ob 1 rfl
    refine g_istore dX0_doTry_9 (by decide) rfl ?_
    refine g_aload_n dX0_doTry_11 rfl ?_
    cases hth1 : gR w1 8 (eB g + 1) with
    | none =>
      refine g_getN 0 8 8 dX0_doTry_12 fX0_56 rfl rfl o2 hth1 ?_
      refine g_astoreN dX0_doTry_15 (by decide) rfl ?_
      refine g_aloadN dX0_doTry_17 rfl ?_
      refine g_ifnonnullN dX0_doTry_19 ?_
      refine g_null dX0_doTry_22 ?_
      refine g_goto 35 dX0_doTry_23 (by decide) ?_
      refine g_astoreN dX0_doTry_35 (by decide) rfl ?_
      refine g_aloadN dX0_doTry_37 rfl ?_
      refine g_ifnullN 70 dX0_doTry_39 (by decide) ?_
      exact c_doTry_tail_n hd R hR v w1 (hno v w1 hp1 hth1) _ rfl rfl rfl rfl rfl rfl
    | some f =>
      obtain ⟨kd, n, res, hkd, hf, hfk, hcp, hr1, hr2⟩ := hth v w1 f hp1 hth1
      refine g_getR 0 8 8 dX0_doTry_12 fX0_56 rfl rfl o2 hth1 ?_
      refine g_astore dX0_doTry_15 (by decide) rfl ?_
      refine g_aload dX0_doTry_17 rfl ?_
      refine g_ifnonnull 26 dX0_doTry_19 (by decide) ?_
      refine g_aload_n dX0_doTry_26 rfl ?_
      refine g_aload dX0_doTry_27 rfl ?_
      refine g_getI 3 0 192 dX0_doTry_29 fX0_67 rfl rfl hf ?_
      rw [hfk]
      refine g_callV (d1 := d - 1) (As := [_]) 7 dX0_doTry_32 vX0_150 (by omega) hq2 rfl rfl (Nat.le_of_ble_eq_true rfl) ?_
      refine c_catchPartFor (by omega) hl ha hkd hq2 hp2 hcp ?_
      cases res with
      | none =>
        refine g_astoreN dX0_doTry_35 (by decide) rfl ?_
        refine g_aloadN dX0_doTry_37 rfl ?_
        refine g_ifnullN 70 dX0_doTry_39 (by decide) ?_
        exact c_doTry_tail_n hd R hR v w1 (hr1 rfl) _ rfl rfl rfl rfl rfl rfl
      | some qc =>
        refine g_astore dX0_doTry_35 (by decide) rfl ?_
        refine g_aload dX0_doTry_37 rfl ?_
        refine g_ifnull dX0_doTry_39 ?_
        refine g_aload_n dX0_doTry_42 rfl ?_
        refine g_null dX0_doTry_43 ?_
        refine g_putN 0 8 8 dX0_doTry_44 fX0_56 rfl rfl rfl rfl o2 ?_
        refine g_aload_n dX0_doTry_47 rfl ?_
        refine g_dup dX0_doTry_48 rfl ?_
        refine g_getI 0 6 6 dX0_doTry_49 fX0_50 rfl rfl o2 ?_
        refine g_iconstV (v := 1) dX0_doTry_52 (by decide) ?_
        refine g_iadd dX0_doTry_53 ?_
        refine g_putI 0 6 6 dX0_doTry_54 fX0_50 rfl rfl o2 ?_
        refine g_aload_n dX0_doTry_57 rfl ?_
        refine g_aload_n dX0_doTry_58 rfl ?_
        refine g_aload dX0_doTry_59 rfl ?_
        refine g_aload dX0_doTry_61 rfl ?_
        refine g_iload dX0_doTry_63 rfl ?_
        refine g_callV (d1 := d - 1) (As := [_, _, _, _]) 0 dX0_doTry_65 vX0_112 (by omega) o2 rfl rfl (Nat.le_of_ble_eq_true rfl) ?_
        refine gM.imp (hr2 qc rfl) (fun rv w2 _ _ hq9 => ?_)
        obtain ⟨-, v2, rfl, hp3⟩ := hq9
        refine g_istore dX0_doTry_68 (by decide) rfl ?_
        exact c_doTry_tail_n hd R hR v2 w2 hp3 _ rfl rfl rfl rfl rfl rfl
  | some cf =>
    refine gM.of (by decide) (Nat.le_of_ble_eq_true rfl) ?_
    refine g_aload_n dX0_doTry_0 rfl ?_
    refine g_aload_n dX0_doTry_1 rfl ?_
    refine g_aload_n dX0_doTry_2 rfl ?_
    refine g_aload_n dX0_doTry_3 rfl ?_
    refine g_iload dX0_doTry_4 rfl ?_
    refine g_callV (d1 := d - 1) (As := [_, _, _, _]) 0 dX0_doTry_6 vX0_112 (by omega) (by assumption) rfl rfl (Nat.le_of_ble_eq_true rfl) ?_
    refine gM.imp h1 (fun rv w1 _ _ hq9 => ?_)
    obtain ⟨-, v, rfl, hp1⟩ := hq9
    obtain ⟨hS2, hq2, hp2⟩ := hS1 v w1 hp1
    have o2 : gOb g w1 (eB g + 1) 0 := hS2.ob 1 rfl
    refine g_istore dX0_doTry_9 (by decide) rfl ?_
    refine g_aload_n dX0_doTry_11 rfl ?_
    cases hth1 : gR w1 8 (eB g + 1) with
    | none =>
      refine g_getN 0 8 8 dX0_doTry_12 fX0_56 rfl rfl o2 hth1 ?_
      refine g_astoreN dX0_doTry_15 (by decide) rfl ?_
      refine g_aloadN dX0_doTry_17 rfl ?_
      refine g_ifnonnullN dX0_doTry_19 ?_
      refine g_null dX0_doTry_22 ?_
      refine g_goto 35 dX0_doTry_23 (by decide) ?_
      refine g_astoreN dX0_doTry_35 (by decide) rfl ?_
      refine g_aloadN dX0_doTry_37 rfl ?_
      refine g_ifnullN 70 dX0_doTry_39 (by decide) ?_
      exact c_doTry_tail_s hd R hR v w1 (hno v w1 hp1 hth1) _ rfl rfl rfl rfl rfl rfl
    | some f =>
      obtain ⟨kd, n, res, hkd, hf, hfk, hcp, hr1, hr2⟩ := hth v w1 f hp1 hth1
      refine g_getR 0 8 8 dX0_doTry_12 fX0_56 rfl rfl o2 hth1 ?_
      refine g_astore dX0_doTry_15 (by decide) rfl ?_
      refine g_aload dX0_doTry_17 rfl ?_
      refine g_ifnonnull 26 dX0_doTry_19 (by decide) ?_
      refine g_aload_n dX0_doTry_26 rfl ?_
      refine g_aload dX0_doTry_27 rfl ?_
      refine g_getI 3 0 192 dX0_doTry_29 fX0_67 rfl rfl hf ?_
      rw [hfk]
      refine g_callV (d1 := d - 1) (As := [_]) 7 dX0_doTry_32 vX0_150 (by omega) hq2 rfl rfl (Nat.le_of_ble_eq_true rfl) ?_
      refine c_catchPartFor (by omega) hl ha hkd hq2 hp2 hcp ?_
      cases res with
      | none =>
        refine g_astoreN dX0_doTry_35 (by decide) rfl ?_
        refine g_aloadN dX0_doTry_37 rfl ?_
        refine g_ifnullN 70 dX0_doTry_39 (by decide) ?_
        exact c_doTry_tail_s hd R hR v w1 (hr1 rfl) _ rfl rfl rfl rfl rfl rfl
      | some qc =>
        refine g_astore dX0_doTry_35 (by decide) rfl ?_
        refine g_aload dX0_doTry_37 rfl ?_
        refine g_ifnull dX0_doTry_39 ?_
        refine g_aload_n dX0_doTry_42 rfl ?_
        refine g_null dX0_doTry_43 ?_
        refine g_putN 0 8 8 dX0_doTry_44 fX0_56 rfl rfl rfl rfl o2 ?_
        refine g_aload_n dX0_doTry_47 rfl ?_
        refine g_dup dX0_doTry_48 rfl ?_
        refine g_getI 0 6 6 dX0_doTry_49 fX0_50 rfl rfl o2 ?_
        refine g_iconstV (v := 1) dX0_doTry_52 (by decide) ?_
        refine g_iadd dX0_doTry_53 ?_
        refine g_putI 0 6 6 dX0_doTry_54 fX0_50 rfl rfl o2 ?_
        refine g_aload_n dX0_doTry_57 rfl ?_
        refine g_aload_n dX0_doTry_58 rfl ?_
        refine g_aload dX0_doTry_59 rfl ?_
        refine g_aload dX0_doTry_61 rfl ?_
        refine g_iload dX0_doTry_63 rfl ?_
        refine g_callV (d1 := d - 1) (As := [_, _, _, _]) 0 dX0_doTry_65 vX0_112 (by omega) o2 rfl rfl (Nat.le_of_ble_eq_true rfl) ?_
        refine gM.imp (hr2 qc rfl) (fun rv w2 _ _ hq9 => ?_)
        obtain ⟨-, v2, rfl, hp3⟩ := hq9
        refine g_istore dX0_doTry_68 (by decide) rfl ?_
        exact c_doTry_tail_s hd R hR v2 w2 hp3 _ rfl rfl rfl rfl rfl rfl
set_option maxHeartbeats 4000000 in
set_option maxRecDepth 20000 in
theorem c_doLoop_loop_n {g : GE} {d : Nat} {Q : Int32 → GW → Prop} (hd : 4 ≤ d) {q rt cl a : Nat} (ha7 : a < 7) (I : Nat → GW → Prop) (hround : ∀ i w1, I i w1 → i < a → ∃ c : Nat, SK g w1 ∧ gOb g w1 q 7 ∧ gI w1 449 q = nI a ∧ gI w1 5 (eB g + 1) = nI c ∧ c ≤ 200 ∧ (c = 200 → Q 3 (thrF g w1 10 (gI w1 453 q) 0 0 (gI w1 453 q) (fWeight 10 0 1))) ∧ (c < 200 → gMI g (d - 1) mX0_doPart [.ref (eB g + 1), .ref rt, .ref q, .null, .int (nI cl)] (setI w1 5 (eB g + 1) (nI (c + 1))) (fun v w2 => (v = 0 → I (i + 1) w2) ∧ (v = 1 → Q 0 w2) ∧ (¬ v = 0 → ¬ v = 1 → Q v w2)))) (hend : ∀ w1, I a w1 → SK g w1 ∧ gOb g w1 q 7 ∧ gI w1 449 q = nI a ∧ Q 0 w1) : ∀ (n i : Nat) (w1 : GW), a < i + n → i ≤ a → I i w1 → ∀ ls : List (Nat × Value), ls.lookup 0 = some (.ref (eB g + 1)) → ls.lookup 1 = some (.ref rt) → ls.lookup 2 = some (.ref q) → ls.lookup 3 = some (Value.null) → ls.lookup 4 = some (.int (nI cl)) → ls.lookup 5 = some (.int (nI i)) → gF g d mX0_doLoop 3 ls [] w1 (fun r w9 => ∃ v : Int32, r = some (.int v) ∧ Q v w9) := by
  intro n
  induction n with
  | zero => intro i w1 h1 h2; exact absurd h1 (by omega)
  | succ n ih =>
    intro i w1 hin hit hI ls h0 h1 h2 h3 h4 h5
    by_cases hlt : i = a
    · subst hlt
      obtain ⟨hS, hq, ha, hQ⟩ := hend w1 hI
      refine g_iload dX0_doLoop_3 h5 ?_
      refine g_aload_n dX0_doLoop_5 h2 ?_
      refine g_getI 7 1 449 dX0_doLoop_6 fX0_122 rfl rfl hq ?_
      refine g_icmp_ge 62 dX0_doLoop_9 (by decide) (fun _ => ?_) (fun z => absurd (by rw [ha]; exact nI_le (Nat.le_refl _) (by omega)) z)
      refine g_iconstV (v := 0) dX0_doLoop_62 (by decide) ?_
      refine g_iret dX0_doLoop_63 rfl ?_
      exact ⟨0, rfl, hQ⟩
    · obtain ⟨c, hS, hq, ha, hc, hc3, k200, kon⟩ := hround i w1 hI (by omega)
      have o1 : gOb g w1 (eB g + 1) 0 := hS.ob 1 rfl
      by_cases hc2 : c = 200
      · subst hc2
        refine g_iload dX0_doLoop_3 h5 ?_
        refine g_aload_n dX0_doLoop_5 h2 ?_
        refine g_getI 7 1 449 dX0_doLoop_6 fX0_122 rfl rfl (by assumption) ?_
        refine g_icmp_ge 62 dX0_doLoop_9 (by decide) (fun q => absurd q (by rw [ha]; exact nI_ge (by omega) (by omega))) (fun _ => ?_)
        refine g_aload_n dX0_doLoop_12 h0 ?_
        refine g_callV (d1 := d - 1) (As := []) 0 dX0_doLoop_13 vX0_91 (by omega) (by assumption) rfl rfl (Nat.le_of_ble_eq_true rfl) ?_
        refine c_isCounted hS hc (by omega) (fun _ => ?_) (fun z => absurd z (by omega))
        refine g_if_ne 27 dX0_doLoop_16 (by decide) (fun q => absurd (rfl) q) (fun _ => ?_)
        refine g_aload_n dX0_doLoop_19 h0 ?_
        refine g_bipushV (v := 10) dX0_doLoop_20 (by decide) ?_
        refine g_aload_n dX0_doLoop_22 h2 ?_
        refine g_callV (d1 := d - 1) (As := [_, _]) 0 dX0_doLoop_23 vX0_95 (by omega) (by assumption) rfl rfl (Nat.le_of_ble_eq_true rfl) ?_
        refine c_throwNew (by omega) hS hq (by decide) ?_
        refine g_iret dX0_doLoop_26 rfl ?_
        exact ⟨_, rfl, k200 rfl⟩
      · have hS2 : SK g (setI w1 5 (eB g + 1) (nI (c + 1))) := hS.setI 5 _ _ (by decide)
        refine g_iload dX0_doLoop_3 h5 ?_
        refine g_aload_n dX0_doLoop_5 h2 ?_
        refine g_getI 7 1 449 dX0_doLoop_6 fX0_122 rfl rfl (by assumption) ?_
        refine g_icmp_ge 62 dX0_doLoop_9 (by decide) (fun q => absurd q (by rw [ha]; exact nI_ge (by omega) (by omega))) (fun _ => ?_)
        refine g_aload_n dX0_doLoop_12 h0 ?_
        refine g_callV (d1 := d - 1) (As := []) 0 dX0_doLoop_13 vX0_91 (by omega) (by assumption) rfl rfl (Nat.le_of_ble_eq_true rfl) ?_
        refine c_isCounted hS hc (by omega) (fun z => absurd z hc2) (fun _ => ?_)
        refine g_if_ne 27 dX0_doLoop_16 (by decide) (fun _ => ?_) (fun q => absurd q (by decide))
        refine g_aload_n dX0_doLoop_27 h0 ?_
        refine g_aload_n dX0_doLoop_28 h1 ?_
        refine g_aload_n dX0_doLoop_29 h2 ?_
        refine g_aload_nN dX0_doLoop_30 h3 ?_
        refine g_iload dX0_doLoop_31 h4 ?_
        refine g_callV (d1 := d - 1) (As := [_, _, _, _]) 0 dX0_doLoop_33 vX0_112 (by omega) (by assumption) rfl rfl (Nat.le_of_ble_eq_true rfl) ?_
        refine gM.imp (kon (by omega)) (fun rv w2 _ _ hq9 => ?_)
        obtain ⟨-, v, rfl, hk0, hk1, hk2⟩ := hq9
        refine g_istore dX0_doLoop_36 (by decide) rfl ?_
        refine g_iload dX0_doLoop_38 rfl ?_
        refine g_if_eq 56 dX0_doLoop_40 (by decide) (fun c1 => ?_) (fun c1 => ?_)
        · subst c1
          refine g_iinc dX0_doLoop_56 (lk h5 (by decide) rfl) (by decide) rfl ?_
          refine g_goto 3 dX0_doLoop_59 (by decide) ?_
          exact ih (i + 1) w2 (by omega) (by omega) (hk0 rfl) _ (lk (lk h0 (by decide) rfl) (by decide) rfl) (lk (lk h1 (by decide) rfl) (by decide) rfl) (lk (lk h2 (by decide) rfl) (by decide) rfl) (lk (lk h3 (by decide) rfl) (by decide) rfl) (lk (lk h4 (by decide) rfl) (by decide) rfl) (by show some (Value.int (nI i + Int32.ofInt 1)) = _; rw [show nI i + Int32.ofInt 1 = nI (i + 1) from nI_1 i])
        · refine g_iload dX0_doLoop_43 rfl ?_
          refine g_iconstV (v := 1) dX0_doLoop_45 (by decide) ?_
          refine g_icmp_ne 53 dX0_doLoop_46 (by decide) (fun c2 => ?_) (fun c2 => ?_)
          · refine g_iload dX0_doLoop_53 rfl ?_
            refine g_iret dX0_doLoop_55 rfl ?_
            exact ⟨_, rfl, hk2 c1 c2⟩
          · refine g_iconstV (v := 0) dX0_doLoop_49 (by decide) ?_
            refine g_goto 55 dX0_doLoop_50 (by decide) ?_
            refine g_iret dX0_doLoop_55 rfl ?_
            exact ⟨_, rfl, hk1 c2⟩
set_option maxHeartbeats 4000000 in
set_option maxRecDepth 20000 in
theorem c_doLoop_loop_s {g : GE} {d : Nat} {Q : Int32 → GW → Prop} {cf : Nat} (hd : 4 ≤ d) {q rt cl a : Nat} (ha7 : a < 7) (I : Nat → GW → Prop) (hround : ∀ i w1, I i w1 → i < a → ∃ c : Nat, SK g w1 ∧ gOb g w1 q 7 ∧ gI w1 449 q = nI a ∧ gI w1 5 (eB g + 1) = nI c ∧ c ≤ 200 ∧ (c = 200 → Q 3 (thrF g w1 10 (gI w1 453 q) 0 0 (gI w1 453 q) (fWeight 10 0 1))) ∧ (c < 200 → gMI g (d - 1) mX0_doPart [.ref (eB g + 1), .ref rt, .ref q, .ref cf, .int (nI cl)] (setI w1 5 (eB g + 1) (nI (c + 1))) (fun v w2 => (v = 0 → I (i + 1) w2) ∧ (v = 1 → Q 0 w2) ∧ (¬ v = 0 → ¬ v = 1 → Q v w2)))) (hend : ∀ w1, I a w1 → SK g w1 ∧ gOb g w1 q 7 ∧ gI w1 449 q = nI a ∧ Q 0 w1) : ∀ (n i : Nat) (w1 : GW), a < i + n → i ≤ a → I i w1 → ∀ ls : List (Nat × Value), ls.lookup 0 = some (.ref (eB g + 1)) → ls.lookup 1 = some (.ref rt) → ls.lookup 2 = some (.ref q) → ls.lookup 3 = some (Value.ref cf) → ls.lookup 4 = some (.int (nI cl)) → ls.lookup 5 = some (.int (nI i)) → gF g d mX0_doLoop 3 ls [] w1 (fun r w9 => ∃ v : Int32, r = some (.int v) ∧ Q v w9) := by
  intro n
  induction n with
  | zero => intro i w1 h1 h2; exact absurd h1 (by omega)
  | succ n ih =>
    intro i w1 hin hit hI ls h0 h1 h2 h3 h4 h5
    by_cases hlt : i = a
    · subst hlt
      obtain ⟨hS, hq, ha, hQ⟩ := hend w1 hI
      refine g_iload dX0_doLoop_3 h5 ?_
      refine g_aload_n dX0_doLoop_5 h2 ?_
      refine g_getI 7 1 449 dX0_doLoop_6 fX0_122 rfl rfl hq ?_
      refine g_icmp_ge 62 dX0_doLoop_9 (by decide) (fun _ => ?_) (fun z => absurd (by rw [ha]; exact nI_le (Nat.le_refl _) (by omega)) z)
      refine g_iconstV (v := 0) dX0_doLoop_62 (by decide) ?_
      refine g_iret dX0_doLoop_63 rfl ?_
      exact ⟨0, rfl, hQ⟩
    · obtain ⟨c, hS, hq, ha, hc, hc3, k200, kon⟩ := hround i w1 hI (by omega)
      have o1 : gOb g w1 (eB g + 1) 0 := hS.ob 1 rfl
      by_cases hc2 : c = 200
      · subst hc2
        refine g_iload dX0_doLoop_3 h5 ?_
        refine g_aload_n dX0_doLoop_5 h2 ?_
        refine g_getI 7 1 449 dX0_doLoop_6 fX0_122 rfl rfl (by assumption) ?_
        refine g_icmp_ge 62 dX0_doLoop_9 (by decide) (fun q => absurd q (by rw [ha]; exact nI_ge (by omega) (by omega))) (fun _ => ?_)
        refine g_aload_n dX0_doLoop_12 h0 ?_
        refine g_callV (d1 := d - 1) (As := []) 0 dX0_doLoop_13 vX0_91 (by omega) (by assumption) rfl rfl (Nat.le_of_ble_eq_true rfl) ?_
        refine c_isCounted hS hc (by omega) (fun _ => ?_) (fun z => absurd z (by omega))
        refine g_if_ne 27 dX0_doLoop_16 (by decide) (fun q => absurd (rfl) q) (fun _ => ?_)
        refine g_aload_n dX0_doLoop_19 h0 ?_
        refine g_bipushV (v := 10) dX0_doLoop_20 (by decide) ?_
        refine g_aload_n dX0_doLoop_22 h2 ?_
        refine g_callV (d1 := d - 1) (As := [_, _]) 0 dX0_doLoop_23 vX0_95 (by omega) (by assumption) rfl rfl (Nat.le_of_ble_eq_true rfl) ?_
        refine c_throwNew (by omega) hS hq (by decide) ?_
        refine g_iret dX0_doLoop_26 rfl ?_
        exact ⟨_, rfl, k200 rfl⟩
      · have hS2 : SK g (setI w1 5 (eB g + 1) (nI (c + 1))) := hS.setI 5 _ _ (by decide)
        refine g_iload dX0_doLoop_3 h5 ?_
        refine g_aload_n dX0_doLoop_5 h2 ?_
        refine g_getI 7 1 449 dX0_doLoop_6 fX0_122 rfl rfl (by assumption) ?_
        refine g_icmp_ge 62 dX0_doLoop_9 (by decide) (fun q => absurd q (by rw [ha]; exact nI_ge (by omega) (by omega))) (fun _ => ?_)
        refine g_aload_n dX0_doLoop_12 h0 ?_
        refine g_callV (d1 := d - 1) (As := []) 0 dX0_doLoop_13 vX0_91 (by omega) (by assumption) rfl rfl (Nat.le_of_ble_eq_true rfl) ?_
        refine c_isCounted hS hc (by omega) (fun z => absurd z hc2) (fun _ => ?_)
        refine g_if_ne 27 dX0_doLoop_16 (by decide) (fun _ => ?_) (fun q => absurd q (by decide))
        refine g_aload_n dX0_doLoop_27 h0 ?_
        refine g_aload_n dX0_doLoop_28 h1 ?_
        refine g_aload_n dX0_doLoop_29 h2 ?_
        refine g_aload_n dX0_doLoop_30 h3 ?_
        refine g_iload dX0_doLoop_31 h4 ?_
        refine g_callV (d1 := d - 1) (As := [_, _, _, _]) 0 dX0_doLoop_33 vX0_112 (by omega) (by assumption) rfl rfl (Nat.le_of_ble_eq_true rfl) ?_
        refine gM.imp (kon (by omega)) (fun rv w2 _ _ hq9 => ?_)
        obtain ⟨-, v, rfl, hk0, hk1, hk2⟩ := hq9
        refine g_istore dX0_doLoop_36 (by decide) rfl ?_
        refine g_iload dX0_doLoop_38 rfl ?_
        refine g_if_eq 56 dX0_doLoop_40 (by decide) (fun c1 => ?_) (fun c1 => ?_)
        · subst c1
          refine g_iinc dX0_doLoop_56 (lk h5 (by decide) rfl) (by decide) rfl ?_
          refine g_goto 3 dX0_doLoop_59 (by decide) ?_
          exact ih (i + 1) w2 (by omega) (by omega) (hk0 rfl) _ (lk (lk h0 (by decide) rfl) (by decide) rfl) (lk (lk h1 (by decide) rfl) (by decide) rfl) (lk (lk h2 (by decide) rfl) (by decide) rfl) (lk (lk h3 (by decide) rfl) (by decide) rfl) (lk (lk h4 (by decide) rfl) (by decide) rfl) (by show some (Value.int (nI i + Int32.ofInt 1)) = _; rw [show nI i + Int32.ofInt 1 = nI (i + 1) from nI_1 i])
        · refine g_iload dX0_doLoop_43 rfl ?_
          refine g_iconstV (v := 1) dX0_doLoop_45 (by decide) ?_
          refine g_icmp_ne 53 dX0_doLoop_46 (by decide) (fun c2 => ?_) (fun c2 => ?_)
          · refine g_iload dX0_doLoop_53 rfl ?_
            refine g_iret dX0_doLoop_55 rfl ?_
            exact ⟨_, rfl, hk2 c1 c2⟩
          · refine g_iconstV (v := 0) dX0_doLoop_49 (by decide) ?_
            refine g_goto 55 dX0_doLoop_50 (by decide) ?_
            refine g_iret dX0_doLoop_55 rfl ?_
            exact ⟨_, rfl, hk1 c2⟩
set_option maxHeartbeats 4000000 in
set_option maxRecDepth 20000 in
theorem c_doLoop {g : GE} {d : Nat} {w : GW} {Q : Int32 → GW → Prop} {cau : Option Nat} (hd : 4 ≤ d) {q rt cl a : Nat} (ha7 : a < 7) (I : Nat → GW → Prop) (h0 : I 0 w) (hround : ∀ i w1, I i w1 → i < a → ∃ c : Nat, SK g w1 ∧ gOb g w1 q 7 ∧ gI w1 449 q = nI a ∧ gI w1 5 (eB g + 1) = nI c ∧ c ≤ 200 ∧ (c = 200 → Q 3 (thrF g w1 10 (gI w1 453 q) 0 0 (gI w1 453 q) (fWeight 10 0 1))) ∧ (c < 200 → gMI g (d - 1) mX0_doPart [.ref (eB g + 1), .ref rt, .ref q, va_rf cau, .int (nI cl)] (setI w1 5 (eB g + 1) (nI (c + 1))) (fun v w2 => (v = 0 → I (i + 1) w2) ∧ (v = 1 → Q 0 w2) ∧ (¬ v = 0 → ¬ v = 1 → Q v w2)))) (hend : ∀ w1, I a w1 → SK g w1 ∧ gOb g w1 q 7 ∧ gI w1 449 q = nI a ∧ Q 0 w1) : gMI g d mX0_doLoop [.ref (eB g + 1), .ref rt, .ref q, va_rf cau, .int (nI cl)] w Q := by
  refine gMI_of ?_
  cases cau with
  | none =>
    refine gM.of (by decide) (Nat.le_of_ble_eq_true rfl) ?_
    refine g_iconstV (v := 0) dX0_doLoop_0 (by decide) ?_
    refine g_istore dX0_doLoop_1 (by decide) rfl ?_
    exact c_doLoop_loop_n hd ha7 I hround hend (a + 1) 0 w (by omega) (by omega) h0 _ rfl rfl rfl rfl rfl rfl
  | some cf =>
    refine gM.of (by decide) (Nat.le_of_ble_eq_true rfl) ?_
    refine g_iconstV (v := 0) dX0_doLoop_0 (by decide) ?_
    refine g_istore dX0_doLoop_1 (by decide) rfl ?_
    exact c_doLoop_loop_s hd ha7 I hround hend (a + 1) 0 w (by omega) (by omega) h0 _ rfl rfl rfl rfl rfl rfl
