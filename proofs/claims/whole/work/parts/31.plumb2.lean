theorem lk_ne {ls : List (Nat × Value)} {i j : Nat} {v u : Value} (h : ls.lookup j = some u) (hne : ¬ j = i) (hc : ¬ (j + 1 = i ∧ u.category = 2)) : (ls1 ls i v).lookup j = some u := by
  unfold ls1
  have hji : (j == i) = false := by simp [hne]
  simp only [List.lookup, hji]
  induction ls with
  | nil => cases h
  | cons p t ih =>
    obtain ⟨a, b⟩ := p
    by_cases ha : j = a
    · subst ha
      simp [List.lookup] at h
      subst h
      have hk : (!((j, b).1 == i) && !((j, b).1 + 1 == i && (j, b).2.category == 2)) = true := by
        simp only [hji, Bool.not_false, Bool.true_and, Bool.not_eq_true', Bool.and_eq_false_iff, beq_eq_false_iff_ne]
        by_cases z : j + 1 = i
        · exact Or.inr (fun y => hc ⟨z, y⟩)
        · exact Or.inl z
      rw [List.filter_cons, if_pos hk]
      simp [List.lookup]
    · have haf : (j == a) = false := by simp [ha]
      simp only [List.lookup, haf] at h
      have := ih h
      rw [List.filter_cons]
      split
      · simp only [List.lookup, haf]; exact this
      · exact this
theorem lk {ls : List (Nat × Value)} {i j : Nat} {v u : Value} (h : ls.lookup j = some u) (hne : ¬ j = i) (hc : u.category = 1) : (ls1 ls i v).lookup j = some u := lk_ne h hne (fun z => by rw [hc] at z; exact absurd z.2 (by decide))
set_option maxHeartbeats 4000000 in
set_option maxRecDepth 20000 in
theorem c_doSteps_loop_n {g : GE} {d : Nat} {Q : Int32 → GW → Prop} (hd : 1 ≤ d) {r t cl : Nat} (hr : r < 4) (ht : t ≤ 40) (I : Nat → GW → Prop) (hstep : ∀ i w1, I i w1 → i < t → ∃ s q e : Nat, SK g w1 ∧ gI w1 323 (aRt g r) = nI s ∧ i < s ∧ s ≤ 40 ∧ gP w1 (aSt g r) i = some q ∧ gOb g w1 q 7 ∧ e < 100 ∧ gMI g (d - 1) mX0_doStep [.ref (eB g + 1), .ref (aRt g r), .ref q, .null, .int (nI cl)] w1 (fun v w2 => (¬ v = 0 → Q v w2) ∧ (v = 0 → gI w2 454 q = nI e ∧ gOb g w2 q 7 ∧ (if i < e then e else i) + 1 ≤ t ∧ I ((if i < e then e else i) + 1) w2))) (hend : ∀ w1, I t w1 → Q 0 w1) : ∀ (n i : Nat) (w1 : GW), t < i + n → i ≤ t → I i w1 → ∀ ls : List (Nat × Value), ls.lookup 6 = some (.int (nI i)) → ls.lookup 0 = some (.ref (eB g + 1)) → ls.lookup 1 = some (.ref (aRt g r)) → ls.lookup 3 = some (.int (nI t)) → ls.lookup 4 = some Value.null → ls.lookup 5 = some (.int (nI cl)) → gF g d mX0_doSteps 3 ls [] w1 (fun r w' => ∃ v : Int32, r = some (.int v) ∧ Q v w') := by
  intro n
  induction n with
  | zero => intro i w1 h1 h2; exact absurd h1 (by omega)
  | succ n ih =>
    intro i w1 hin hit hI ls h6 h0 h1 h3 h4 h5
    by_cases hlt : i = t
    · subst hlt
      refine g_iload dX0_doSteps_3 h6 ?_
      refine g_iload_n dX0_doSteps_5 h3 ?_
      refine g_icmp_ge 62 dX0_doSteps_6 (by decide) (fun _ => ?_) (fun q => absurd (nI_le (Nat.le_refl _) (by omega)) q)
      refine g_iconstV (v := 0) dX0_doSteps_62 (by decide) ?_
      refine g_iret dX0_doSteps_63 rfl ?_
      exact ⟨0, rfl, hend w1 hI⟩
    · obtain ⟨s, q, e, hS1, hs, his, hs4, hq, hob, he, hM⟩ := hstep i w1 hI (by omega)
      have o1 : gOb g w1 (eB g + 1) 0 := hS1.ob 1 rfl
      have oR := (hS1.rt hr).1
      refine g_iload dX0_doSteps_3 h6 ?_
      refine g_iload_n dX0_doSteps_5 h3 ?_
      refine g_icmp_ge 62 dX0_doSteps_6 (by decide) (fun q => absurd q (nI_ge (by omega) (by omega))) (fun _ => ?_)
      refine g_aload_n dX0_doSteps_9 h1 ?_
      refine g_iload dX0_doSteps_10 h6 ?_
      refine g_callV (d1 := d - 1) (As := [_]) 5 dX0_doSteps_12 vX0_72 (by omega) (by assumption) rfl rfl (Nat.le_of_ble_eq_true rfl) ?_
      refine c_stepAt hS1 hr hs his hs4 hq ?_
      refine g_astore dX0_doSteps_15 (by decide) rfl ?_
      refine g_aload dX0_doSteps_17 rfl ?_
      refine g_ifnonnull 24 dX0_doSteps_19 (by decide) ?_
      refine g_aload_n dX0_doSteps_24 (lk h0 (by decide) rfl) ?_
      refine g_aload_n dX0_doSteps_25 (lk h1 (by decide) rfl) ?_
      refine g_aload dX0_doSteps_26 rfl ?_
      refine g_aloadN dX0_doSteps_28 (lk h4 (by decide) rfl) ?_
      refine g_iload dX0_doSteps_30 (lk h5 (by decide) rfl) ?_
      refine g_callV (d1 := d - 1) (As := [_, _, _, _]) 0 dX0_doSteps_32 vX0_76 (by omega) (by assumption) rfl rfl (Nat.le_of_ble_eq_true rfl) ?_
      refine gM.imp hM (fun rv w2 _ _ hq1 => ?_)
      obtain ⟨-, v, rfl, hk1, hk2⟩ := hq1
      refine g_istore dX0_doSteps_35 (by decide) rfl ?_
      refine g_iload dX0_doSteps_37 rfl ?_
      refine g_if_eq 45 dX0_doSteps_39 (by decide) (fun c1 => ?_) (fun c1 => ?_)
      · subst c1
        obtain ⟨hl, hq2, hle, hI⟩ := hk2 rfl
        refine g_iload dX0_doSteps_45 (lk (lk h6 (by decide) rfl) (by decide) rfl) ?_
        refine g_aload dX0_doSteps_47 (lk rfl (by decide) rfl) ?_
        refine g_getI 7 6 454 dX0_doSteps_49 fX0_80 rfl rfl hq2 ?_
        rw [hl]
        refine g_max rfl dX0_doSteps_52 (by omega) (Nat.le_of_ble_eq_true rfl) ?_
        refine g_iconstV (v := 1) dX0_doSteps_55 (by decide) ?_
        refine g_iadd dX0_doSteps_56 ?_
        have em : (if nI i < nI e then nI e else nI i) + 1 = nI ((if i < e then e else i) + 1) := by
          by_cases z : i < e
          · rw [if_pos z, if_pos (nI_lt z (by omega))]; exact nI_1 e
          · rw [if_neg z, if_neg (nI_nlt (by omega) (by omega))]; exact nI_1 i
        rw [em]
        refine g_istore dX0_doSteps_57 (by decide) rfl ?_
        refine g_goto 3 dX0_doSteps_59 (by decide) ?_
        have hgt : i < (if i < e then e else i) + 1 := by split <;> omega
        exact ih _ _ (by omega) hle hI _ rfl (lk (lk (lk h0 (by decide) rfl) (by decide) rfl) (by decide) rfl) (lk (lk (lk h1 (by decide) rfl) (by decide) rfl) (by decide) rfl) (lk (lk (lk h3 (by decide) rfl) (by decide) rfl) (by decide) rfl) (lk (lk (lk h4 (by decide) rfl) (by decide) rfl) (by decide) rfl) (lk (lk (lk h5 (by decide) rfl) (by decide) rfl) (by decide) rfl)
      · refine g_iload dX0_doSteps_42 rfl ?_
        refine g_iret dX0_doSteps_44 rfl ?_
        exact ⟨v, rfl, hk1 c1⟩
set_option maxHeartbeats 4000000 in
set_option maxRecDepth 20000 in
theorem c_doSteps_loop_s {g : GE} {d : Nat} {Q : Int32 → GW → Prop} (hd : 1 ≤ d) {r t cl : Nat} {cf : Nat} (hr : r < 4) (ht : t ≤ 40) (I : Nat → GW → Prop) (hstep : ∀ i w1, I i w1 → i < t → ∃ s q e : Nat, SK g w1 ∧ gI w1 323 (aRt g r) = nI s ∧ i < s ∧ s ≤ 40 ∧ gP w1 (aSt g r) i = some q ∧ gOb g w1 q 7 ∧ e < 100 ∧ gMI g (d - 1) mX0_doStep [.ref (eB g + 1), .ref (aRt g r), .ref q, .ref cf, .int (nI cl)] w1 (fun v w2 => (¬ v = 0 → Q v w2) ∧ (v = 0 → gI w2 454 q = nI e ∧ gOb g w2 q 7 ∧ (if i < e then e else i) + 1 ≤ t ∧ I ((if i < e then e else i) + 1) w2))) (hend : ∀ w1, I t w1 → Q 0 w1) : ∀ (n i : Nat) (w1 : GW), t < i + n → i ≤ t → I i w1 → ∀ ls : List (Nat × Value), ls.lookup 6 = some (.int (nI i)) → ls.lookup 0 = some (.ref (eB g + 1)) → ls.lookup 1 = some (.ref (aRt g r)) → ls.lookup 3 = some (.int (nI t)) → ls.lookup 4 = some (Value.ref cf) → ls.lookup 5 = some (.int (nI cl)) → gF g d mX0_doSteps 3 ls [] w1 (fun r w' => ∃ v : Int32, r = some (.int v) ∧ Q v w') := by
  intro n
  induction n with
  | zero => intro i w1 h1 h2; exact absurd h1 (by omega)
  | succ n ih =>
    intro i w1 hin hit hI ls h6 h0 h1 h3 h4 h5
    by_cases hlt : i = t
    · subst hlt
      refine g_iload dX0_doSteps_3 h6 ?_
      refine g_iload_n dX0_doSteps_5 h3 ?_
      refine g_icmp_ge 62 dX0_doSteps_6 (by decide) (fun _ => ?_) (fun q => absurd (nI_le (Nat.le_refl _) (by omega)) q)
      refine g_iconstV (v := 0) dX0_doSteps_62 (by decide) ?_
      refine g_iret dX0_doSteps_63 rfl ?_
      exact ⟨0, rfl, hend w1 hI⟩
    · obtain ⟨s, q, e, hS1, hs, his, hs4, hq, hob, he, hM⟩ := hstep i w1 hI (by omega)
      have o1 : gOb g w1 (eB g + 1) 0 := hS1.ob 1 rfl
      have oR := (hS1.rt hr).1
      refine g_iload dX0_doSteps_3 h6 ?_
      refine g_iload_n dX0_doSteps_5 h3 ?_
      refine g_icmp_ge 62 dX0_doSteps_6 (by decide) (fun q => absurd q (nI_ge (by omega) (by omega))) (fun _ => ?_)
      refine g_aload_n dX0_doSteps_9 h1 ?_
      refine g_iload dX0_doSteps_10 h6 ?_
      refine g_callV (d1 := d - 1) (As := [_]) 5 dX0_doSteps_12 vX0_72 (by omega) (by assumption) rfl rfl (Nat.le_of_ble_eq_true rfl) ?_
      refine c_stepAt hS1 hr hs his hs4 hq ?_
      refine g_astore dX0_doSteps_15 (by decide) rfl ?_
      refine g_aload dX0_doSteps_17 rfl ?_
      refine g_ifnonnull 24 dX0_doSteps_19 (by decide) ?_
      refine g_aload_n dX0_doSteps_24 (lk h0 (by decide) rfl) ?_
      refine g_aload_n dX0_doSteps_25 (lk h1 (by decide) rfl) ?_
      refine g_aload dX0_doSteps_26 rfl ?_
      refine g_aload dX0_doSteps_28 (lk h4 (by decide) rfl) ?_
      refine g_iload dX0_doSteps_30 (lk h5 (by decide) rfl) ?_
      refine g_callV (d1 := d - 1) (As := [_, _, _, _]) 0 dX0_doSteps_32 vX0_76 (by omega) (by assumption) rfl rfl (Nat.le_of_ble_eq_true rfl) ?_
      refine gM.imp hM (fun rv w2 _ _ hq1 => ?_)
      obtain ⟨-, v, rfl, hk1, hk2⟩ := hq1
      refine g_istore dX0_doSteps_35 (by decide) rfl ?_
      refine g_iload dX0_doSteps_37 rfl ?_
      refine g_if_eq 45 dX0_doSteps_39 (by decide) (fun c1 => ?_) (fun c1 => ?_)
      · subst c1
        obtain ⟨hl, hq2, hle, hI⟩ := hk2 rfl
        refine g_iload dX0_doSteps_45 (lk (lk h6 (by decide) rfl) (by decide) rfl) ?_
        refine g_aload dX0_doSteps_47 (lk rfl (by decide) rfl) ?_
        refine g_getI 7 6 454 dX0_doSteps_49 fX0_80 rfl rfl hq2 ?_
        rw [hl]
        refine g_max rfl dX0_doSteps_52 (by omega) (Nat.le_of_ble_eq_true rfl) ?_
        refine g_iconstV (v := 1) dX0_doSteps_55 (by decide) ?_
        refine g_iadd dX0_doSteps_56 ?_
        have em : (if nI i < nI e then nI e else nI i) + 1 = nI ((if i < e then e else i) + 1) := by
          by_cases z : i < e
          · rw [if_pos z, if_pos (nI_lt z (by omega))]; exact nI_1 e
          · rw [if_neg z, if_neg (nI_nlt (by omega) (by omega))]; exact nI_1 i
        rw [em]
        refine g_istore dX0_doSteps_57 (by decide) rfl ?_
        refine g_goto 3 dX0_doSteps_59 (by decide) ?_
        have hgt : i < (if i < e then e else i) + 1 := by split <;> omega
        exact ih _ _ (by omega) hle hI _ rfl (lk (lk (lk h0 (by decide) rfl) (by decide) rfl) (by decide) rfl) (lk (lk (lk h1 (by decide) rfl) (by decide) rfl) (by decide) rfl) (lk (lk (lk h3 (by decide) rfl) (by decide) rfl) (by decide) rfl) (lk (lk (lk h4 (by decide) rfl) (by decide) rfl) (by decide) rfl) (lk (lk (lk h5 (by decide) rfl) (by decide) rfl) (by decide) rfl)
      · refine g_iload dX0_doSteps_42 rfl ?_
        refine g_iret dX0_doSteps_44 rfl ?_
        exact ⟨v, rfl, hk1 c1⟩
set_option maxHeartbeats 4000000 in
set_option maxRecDepth 20000 in
theorem c_doSteps {g : GE} {d : Nat} {w : GW} {Q : Int32 → GW → Prop} {cau : Option Nat} (hd : 1 ≤ d) {r f t cl : Nat} (hr : r < 4) (hft : f ≤ t) (ht : t ≤ 40) (I : Nat → GW → Prop) (h0 : I f w) (hstep : ∀ i w1, I i w1 → i < t → ∃ s q e : Nat, SK g w1 ∧ gI w1 323 (aRt g r) = nI s ∧ i < s ∧ s ≤ 40 ∧ gP w1 (aSt g r) i = some q ∧ gOb g w1 q 7 ∧ e < 100 ∧ gMI g (d - 1) mX0_doStep [.ref (eB g + 1), .ref (aRt g r), .ref q, va_rf cau, .int (nI cl)] w1 (fun v w2 => (¬ v = 0 → Q v w2) ∧ (v = 0 → gI w2 454 q = nI e ∧ gOb g w2 q 7 ∧ (if i < e then e else i) + 1 ≤ t ∧ I ((if i < e then e else i) + 1) w2))) (hend : ∀ w1, I t w1 → Q 0 w1) : gMI g d mX0_doSteps [.ref (eB g + 1), .ref (aRt g r), .int (nI f), .int (nI t), va_rf cau, .int (nI cl)] w Q := by
  refine gMI_of ?_
  cases cau with
  | none =>
    refine gM.of (by decide) (Nat.le_of_ble_eq_true rfl) ?_
    refine g_iload_n dX0_doSteps_0 rfl ?_
    refine g_istore dX0_doSteps_1 (by decide) rfl ?_
    exact c_doSteps_loop_n hd hr ht I hstep hend (t + 1) f w (by omega) hft h0 _ rfl rfl rfl rfl rfl rfl
  | some cf =>
    refine gM.of (by decide) (Nat.le_of_ble_eq_true rfl) ?_
    refine g_iload_n dX0_doSteps_0 rfl ?_
    refine g_istore dX0_doSteps_1 (by decide) rfl ?_
    exact c_doSteps_loop_s hd hr ht I hstep hend (t + 1) f w (by omega) hft h0 _ rfl rfl rfl rfl rfl rfl
