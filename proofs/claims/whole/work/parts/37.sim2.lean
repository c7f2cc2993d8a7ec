theorem nPrt {v x : Int32} (h : v = x) (hx : x ≠ 0 ∧ x ≠ 2 ∧ x ≠ 3) : ¬ isPrt v := by
  subst h
  rintro (q | q | q)
  · exact hx.1 q
  · exact hx.2.1 q
  · exact hx.2.2 q
theorem mFail_eq {σ : MW} {n kd : Nat} {pl : Int32} (h : mI σ 30 = pl) : mFail σ n (nI kd) = mThrow σ n (nI kd) pl 0 (-1) 0 := by
  unfold mFail
  rw [h]
theorem Base_I {g : GE} {P : PG} {w : GW} {σ : MW} {c nf : Nat} (f : Nat) (x : Int32) (hB : Base g P w σ c nf) (hf : f = 29 ∨ f = 30 ∨ f = 31 ∨ f = 32 ∨ f = 33) : Base g P w (sI σ f x) c nf := by
  refine Base_same hB (CFr_refl g w) (MFr_sI (b := 0) (nf := 0) (by omega)) (Nat.le_refl c) (Sm_mk (SmC_refl g w) ((SmM_refl σ).I f _ (by omega))) ?_
  obtain ⟨n1, n2, n3, n4, n5, n6⟩ := hB.2.2.2.1
  exact ⟨n1, n2, by rw [mI_sI, if_neg (by omega)]; exact n3, by rw [mI_sI, if_neg (by omega)]; exact n4, by rw [mI_sI, if_neg (by omega)]; exact n5, by rw [mI_sI, if_neg (by omega)]; exact n6⟩
theorem Base_A {g : GE} {P : PG} {w : GW} {σ : MW} {c nf : Nat} (j i : Nat) (x : Int32) (hB : Base g P w σ c nf) (hj : 21 ≤ j ∧ j ≤ 25) : Base g P w (sA σ j i x) c nf :=
  Base_same hB (CFr_refl g w) (MFr_sA (b := 0) (nf := 0) (by omega)) (Nat.le_refl c) (Sm_mk (SmC_refl g w) ((SmM_refl σ).A j i _ (by omega))) hB.2.2.2.1
theorem Base_push {g : GE} {P : PG} {w : GW} {σ : MW} {c nf o : Nat} {k s l : Int32} (hB : Base g P w σ c nf) : Base g P w (mPush σ o k s l) c nf :=
  Base_I 29 _ (Base_A 25 o 0 (Base_A 24 o (-1) (Base_A 23 o l (Base_A 22 o s (Base_A 21 o k hB (by omega)) (by omega)) (by omega)) (by omega)) (by omega)) (by omega)
theorem Base_R {g : GE} {P : PG} {w : GW} {σ : MW} {c nf : Nat} (x : Option Nat) (hB : Base g P w σ c nf) : Base g P (setR w 8 (eB g + 1) x) σ c nf :=
  Base_same hB (CFr_setR _ _) (MFr_refl σ 0 0) (Nat.le_refl c) (Sm_mk (SmC_setR _ _ _) (SmM_refl σ)) hB.2.2.2.1
section STEP
variable {g : GE} {P : PG} {d d2 r s i o tr cl c nf h t : Nat} {l cc : Bool} {w : GW} {σ : MW} {cau : Option Nat}
theorem stepQ (hP : PR1 g P w (mA σ) r s) (hi : i < s) : gOb g w (pQ P r i) 7 ∧ gI w 448 (pQ P r i) = mA σ 0 (40 * r + i) ∧ gI w 449 (pQ P r i) = mA σ 1 (40 * r + i) ∧ gI w 450 (pQ P r i) = mA σ 2 (40 * r + i) ∧ gI w 451 (pQ P r i) = mA σ 3 (40 * r + i) ∧ gI w 453 (pQ P r i) = nI (40 * r + i) ∧ argOK (mA σ) (40 * r + i) := by
  obtain ⟨q1, q2, q3, q4, q5, q6, q7, q8, q9, q10, q11⟩ := hP.2.2.2.2.1 i hi
  exact ⟨q2, q3, q4, q5, q6, q8, q11⟩
theorem MS_tired (hd2 : 12 ≤ d2) (hG : GoX g σ r s i o tr) (hw : mI σ 31 = 0) (hp : ¬ isPrt (mA σ 0 (40 * r + i))) (hc : mI σ 34 = nI 200) (hn : mI σ 22 = nI nf) (hn2 : nf < 600) : MS g d2 1 σ (mThrow σ nf (nI 10) (nI (40 * r + i)) 0 (-1) 0) := by
  obtain ⟨g1, g2, g3, g4, g5, g6, g7, g8⟩ := hG
  refine MS_go hd2 g1 g2 hw (fun w' hS' Q k => m_goTired (by omega) hS' g1 g2 g3 g4 g5 g6 g7 g8 (fun q => hp (Or.inl q)) (fun q => hp (Or.inr (Or.inl q))) (fun q => hp (Or.inr (Or.inr q))) hc hn hn2 ?_)
  rw [show (10 : Int32) = nI 10 from rfl, mFail_eq g6]
  exact k
theorem MS_order (hd2 : 12 ≤ d2) (hG : GoX g σ r s i o tr) (hw : mI σ 31 = 0) (hp : ¬ isPrt (mA σ 0 (40 * r + i))) (hlt : mA σ 0 (40 * r + i) < 13) (hc : mI σ 34 = nI c) (hc2 : c < 200) {σ' : MW} (hM : ∀ w', SK g w' → ∀ Q : Option Value → GW → Prop, Q none (put g σ' w') → gM g (d2 - 2) mX10_order [.ref (eB g + 70), .int (nI (40 * r + i))] (put g (sI σ 34 (nI (c + 1))) w') (fun r w1 => r = none ∧ Q none w1)) : MS g d2 1 σ σ' := by
  obtain ⟨g1, g2, g3, g4, g5, g6, g7, g8⟩ := hG
  exact MS_go hd2 g1 g2 hw (fun w' hS' Q k => m_goOrder (by omega) hS' g1 g2 g3 g4 g5 g6 g7 g8 (fun q => hp (Or.inl q)) (fun q => hp (Or.inr (Or.inl q))) (fun q => hp (Or.inr (Or.inr q))) hc hc2 hlt (by rw [Nat.sub_sub]; exact hM w' hS' Q k))
theorem MS_work (hd2 : 12 ≤ d2) (hG : GoX g σ r s i o tr) (hw : mI σ 31 = 0) (hp : ¬ isPrt (mA σ 0 (40 * r + i))) (hge : (13 : Int32) ≤ mA σ 0 (40 * r + i)) (hc : mI σ 34 = nI c) (hc2 : c < 200) {τ σ' : MW} (hM : ∀ w', SK g w' → Ans g (d2 - 2) mX10_work [.ref (eB g + 70), .int (nI (40 * r + i))] (put g (sI σ 34 (nI (c + 1))) w') none (put g τ w')) (h30 : mI τ 30 = nI (40 * r + i)) (h0 : mI τ 31 = 0 → sI τ 30 (nI (40 * r + i + 1)) = σ') (h1 : ¬ mI τ 31 = 0 → τ = σ') : MS g d2 1 σ σ' := by
  obtain ⟨g1, g2, g3, g4, g5, g6, g7, g8⟩ := hG
  exact MS_go hd2 g1 g2 hw (fun w' hS' Q k => m_goWork (by omega) hS' g1 g2 g3 g4 g5 g6 g7 g8 (fun q => hp (Or.inl q)) (fun q => hp (Or.inr (Or.inl q))) (fun q => hp (Or.inr (Or.inr q))) hc hc2 hge (by rw [Nat.sub_sub]; exact hM w' hS' _ ⟨rfl, τ, rfl, h30, fun q => by rw [h0 q]; exact k, fun q => by rw [h1 q]; exact k⟩))
set_option maxHeartbeats 1000000 in
theorem sim_tired (hd : 4 ≤ d) (hd2 : 12 ≤ d2) (hr : r < 4) (hB : Base g P w σ 200 nf) (hP : PR1 g P w (mA σ) r s) (hi : i < s) (hA : At g w σ r i o tr cl) (hn : nf < 600) (ho : o + h ≤ 50) (hp : ¬ isPrt (mA σ 0 (40 * r + i))) : gMI g d mX0_doStep [.ref (eB g + 1), .ref (aRt g r), .ref (pQ P r i), va_rf cau, .int (nI cl)] w (SRes g P d2 w σ r t l o cl 200 nf h) := by
  obtain ⟨q1, q2, q3, q4, q5, q6, q7⟩ := stepQ hP hi
  refine c_stepTired hd hB.1 q1 hB.2.2.2.1.2.1 ?_
  rw [q6]
  exact ⟨Res_throw (kd := 10) (be := -1) (em := 0) (MS_tired hd2 (GoX_of hr hP hi hA ho) hA.2.2.2.1 hp hB.2.2.2.1.2.2.1 hB.2.2.2.1.2.2.2.2.2 hn) hB (CFr_refl g w) (MFr_refl _ _ _) rfl hA.1 hA.2.2.1 (by unfold Bnd; omega) (FR_new hB.1 (by omega) (by omega)), fun _ => by decide⟩
/-- a step that is counted and goes on or leaves, with no fault of its own -/
theorem Res_plain {w1 : GW} {σ1 : MW} {v : Int32} {b : Nat} (hm : MS g d2 1 σ σ1) (hB : Base g P w1 σ1 (c + 1) nf) (hC : CFr g w w1) (hM : MFr σ σ1 (o + 1) nf) (hg : gN w1 = gN w) (hc : c < 200) (h29 : mI σ1 29 = nI (o + 1)) (h33 : mI σ1 33 = nI cl) (hO : Out g w1 σ1 r t l nf v) : SRes g P d2 w σ r t l o cl c nf h v w1 :=
  ⟨⟨σ1, c + 1, nf, 1, hm, hB, hC, hM, by unfold Bnd; omega, by omega, h29, h33, hO⟩, fun q => absurd q (by omega)⟩
theorem sim_leave (hd : 4 ≤ d) (hd2 : 12 ≤ d2) (hr : r < 4) (hB : Base g P w σ c nf) (hc : c < 200) (hP : PR1 g P w (mA σ) r s) (hi : i < s) (hA : At g w σ r i o tr cl) (ho : o + h ≤ 50) (hw : mA σ 0 (40 * r + i) = 5) (hl : l = true) : gMI g d mX0_doStep [.ref (eB g + 1), .ref (aRt g r), .ref (pQ P r i), va_rf cau, .int (nI cl)] w (SRes g P d2 w σ r t l o cl c nf h) := by
  obtain ⟨q1, q2, q3, q4, q5, q6, q7⟩ := stepQ hP hi
  have hG := GoX_of hr hP hi hA ho
  refine c_stepLeave hd hB.1 q1 hB.2.2.2.1.2.1 hc (by rw [q2]; exact hw) ?_
  refine Res_plain (b := 0) (σ1 := sI (sI σ 34 (nI (c + 1))) 31 1) (MS_order hd2 hG hA.2.2.2.1 (nPrt hw (by decide)) (by rw [hw]; decide) hB.2.2.2.1.2.2.1 hc (fun w' hS' Q k => m_ordLeave hS' hG.2.2.2.2.2.2.1 hw ⟨rfl, k⟩)) (Base_I 31 1 (Base_count hB hc) (by omega)) (CFr_setI 5 _ _ (by omega)) (((MFr_refl σ (o + 1) nf).I 34 _ (by omega)).I 31 _ (by omega)) rfl hc ?_ ?_ (Or.inr (Or.inl ⟨rfl, ?_, hl, ?_⟩))
  · rw [mI_sI, if_neg (by decide), mI_sI, if_neg (by decide)]; exact hA.1
  · rw [mI_sI, if_neg (by decide), mI_sI, if_neg (by decide)]; exact hA.2.2.1
  · rw [mI_sI, if_pos rfl]
  · exact hA.2.2.2.2.2
theorem sim_return (hd : 4 ≤ d) (hd2 : 12 ≤ d2) (hr : r < 4) (hB : Base g P w σ c nf) (hc : c < 200) (hP : PR1 g P w (mA σ) r s) (hi : i < s) (hA : At g w σ r i o tr cl) (ho : o + h ≤ 50) (hw : mA σ 0 (40 * r + i) = 6) : gMI g d mX0_doStep [.ref (eB g + 1), .ref (aRt g r), .ref (pQ P r i), va_rf cau, .int (nI cl)] w (SRes g P d2 w σ r t l o cl c nf h) := by
  obtain ⟨q1, q2, q3, q4, q5, q6, q7⟩ := stepQ hP hi
  have hG := GoX_of hr hP hi hA ho
  refine c_stepReturn hd hB.1 q1 hB.2.2.2.1.2.1 hc (by rw [q2]; exact hw) ?_
  refine Res_plain (b := 0) (σ1 := sI (sI σ 34 (nI (c + 1))) 31 2) (MS_order hd2 hG hA.2.2.2.1 (nPrt hw (by decide)) (by rw [hw]; decide) hB.2.2.2.1.2.2.1 hc (fun w' hS' Q k => m_ordReturn hS' hG.2.2.2.2.2.2.1 hw ⟨rfl, k⟩)) (Base_I 31 2 (Base_count hB hc) (by omega)) (CFr_setI 5 _ _ (by omega)) (((MFr_refl σ (o + 1) nf).I 34 _ (by omega)).I 31 _ (by omega)) rfl hc ?_ ?_ (Or.inr (Or.inr (Or.inl ⟨rfl, ?_, ?_⟩)))
  · rw [mI_sI, if_neg (by decide), mI_sI, if_neg (by decide)]; exact hA.1
  · rw [mI_sI, if_neg (by decide), mI_sI, if_neg (by decide)]; exact hA.2.2.1
  · rw [mI_sI, if_pos rfl]
  · exact hA.2.2.2.2.2
/-- a step that is counted and throws a new fault -/
theorem SRes_throw {kd : Nat} {pl nu be em t5 e5 f5 : Int32} (hm : MS g d2 1 σ (mThrow (sI σ 34 (nI (c + 1))) nf (nI kd) pl nu be em)) (hB : Base g P w σ c nf) (hc : c < 200) (hA : At g w σ r i o tr cl) (hF : FR g (thrF g (setI w 5 (eB g + 1) (nI (c + 1))) (nI kd) pl nu e5 f5 t5) (mA (mThrow (sI σ 34 (nI (c + 1))) nf (nI kd) pl nu be em)) (nf + 1) (gN w) nf) : SRes g P d2 w σ r t l o cl c nf h 3 (thrF g (setI w 5 (eB g + 1) (nI (c + 1))) (nI kd) pl nu e5 f5 t5) :=
  ⟨Res_throw hm (Base_count hB hc) (CFr_setI 5 _ _ (by omega)) (MFr_sI (by omega)) rfl (by rw [mI_sI, if_neg (by decide)]; exact hA.1) (by rw [mI_sI, if_neg (by decide)]; exact hA.2.2.1) (by unfold Bnd; omega) hF, fun _ => by decide⟩
theorem sim_throw (hd : 4 ≤ d) (hd2 : 12 ≤ d2) (hr : r < 4) (hB : Base g P w σ c nf) (hc : c < 200) (hn : nf < 600) (hP : PR1 g P w (mA σ) r s) (hi : i < s) (hA : At g w σ r i o tr cl) (ho : o + h ≤ 50) (hw : mA σ 0 (40 * r + i) = 7) : gMI g d mX0_doStep [.ref (eB g + 1), .ref (aRt g r), .ref (pQ P r i), va_rf cau, .int (nI cl)] w (SRes g P d2 w σ r t l o cl c nf h) := by
  obtain ⟨q1, q2, q3, q4, q5, q6, q7⟩ := stepQ hP hi
  have hG := GoX_of hr hP hi hA ho
  refine c_stepThrow hd hB.1 q1 hB.2.2.2.1.2.1 hc (by rw [q2]; exact hw) ?_
  rw [q6, q3]
  exact SRes_throw (kd := 9) (be := -1) (em := 0) (MS_order hd2 hG hA.2.2.2.1 (nPrt hw (by decide)) (by rw [hw]; decide) hB.2.2.2.1.2.2.1 hc (fun w' hS' Q k => m_ordThrow (by omega) hS' hG.2.2.2.2.2.2.1 hw (by rw [mI_sI, if_neg (by decide)]; exact hB.2.2.2.1.2.2.2.2.2) hn ⟨rfl, k⟩)) hB hc hA (FR_new (Base_count hB hc).1 (by omega) (by omega))
theorem sim_again (hd : 5 ≤ d) (hd2 : 12 ≤ d2) (hr : r < 4) (hB : Base g P w σ c nf) (hc : c < 200) (hn : nf < 600) (hP : PR1 g P w (mA σ) r s) (hi : i < s) (hA : At g w σ r i o tr cl) (hCa : Cau g w σ o nf cau true) (ho : o + h ≤ 50) (hw : mA σ 0 (40 * r + i) = 8) : gMI g d mX0_doStep [.ref (eB g + 1), .ref (aRt g r), .ref (pQ P r i), va_rf cau, .int (nI cl)] w (SRes g P d2 w σ r t l o cl c nf h) := by
  obtain ⟨q1, q2, q3, q4, q5, q6, q7⟩ := stepQ hP hi
  have hG := GoX_of hr hP hi hA ho
  obtain ⟨cf, φ, tc, rfl, hF, hT, h24⟩ := hCa rfl
  have hB1 := Base_count hB hc
  refine c_stepAgain (by omega) hB.1 q1 hB.2.2.2.1.2.1 hc (by rw [q2]; exact hw) (f := cf) (v9 := 3) (fun Q k => c_useAgain (by omega) hB1.1 q1 hF.1 (by rw [gI_setI, up2_ne _ _ (by omega), q2]; exact hw) k) ?_
  refine Res_plain (b := 0) (σ1 := sI (sI (sI σ 34 (nI (c + 1))) 32 (nI φ)) 31 3) (MS_order hd2 hG hA.2.2.2.1 (nPrt hw (by decide)) (by rw [hw]; decide) hB.2.2.2.1.2.2.1 hc (fun w' hS' Q k => m_ordAgain (t := tc) (by omega) hS' hG.2.2.2.2.2.2.1 hw (by rw [mI_sI, if_neg (by decide)]; exact hA.1) (by omega) hT ⟨rfl, ?_⟩)) (Base_I 31 3 (Base_I 32 _ (Base_R _ hB1) (by omega)) (by omega)) ((CFr_setI 5 _ _ (by omega)).thn (CFr_setR _ _)) ((((MFr_refl σ (o + 1) nf).I 34 _ (by omega)).I 32 _ (by omega)).I 31 _ (by omega)) rfl hc ?_ ?_ (Or.inr (Or.inr (Or.inr ⟨rfl, ?_, cf, φ, ?_, ?_, ?_⟩)))
  · rw [show mA (sI σ 34 (nI (c + 1))) 24 tc = nI φ from h24]; exact k
  · rw [mI_sI, if_neg (by decide), mI_sI, if_neg (by decide), mI_sI, if_neg (by decide)]; exact hA.1
  · rw [mI_sI, if_neg (by decide), mI_sI, if_neg (by decide), mI_sI, if_neg (by decide)]; exact hA.2.2.1
  · rw [mI_sI, if_pos rfl]
  · rw [gR_setR, up2_at]
  · rw [mI_sI, if_neg (by decide), mI_sI, if_pos rfl]
  · exact FR_same (Nat.le_of_lt hn) (Nat.le_refl nf) (fun _ _ _ _ _ => rfl) ((CFr_setI 5 _ _ (by omega)).thn (CFr_setR _ _)) hF
theorem sim_wrap (hd : 5 ≤ d) (hd2 : 12 ≤ d2) (hr : r < 4) (hB : Base g P w σ c nf) (hc : c < 200) (hn : nf < 600) (hP : PR1 g P w (mA σ) r s) (hi : i < s) (hA : At g w σ r i o tr cl) (hCa : Cau g w σ o nf cau true) (ho : o + h ≤ 50) (hw : mA σ 0 (40 * r + i) = 9) : gMI g d mX0_doStep [.ref (eB g + 1), .ref (aRt g r), .ref (pQ P r i), va_rf cau, .int (nI cl)] w (SRes g P d2 w σ r t l o cl c nf h) := by
  obtain ⟨q1, q2, q3, q4, q5, q6, q7⟩ := stepQ hP hi
  have hG := GoX_of hr hP hi hA ho
  obtain ⟨cf, φ, tc, rfl, hF, hT, h24⟩ := hCa rfl
  have hB1 := Base_count hB hc
  have hF1 : FR g (setI w 5 (eB g + 1) (nI (c + 1))) (mA (sI σ 34 (nI (c + 1)))) nf cf φ := FR_same (Nat.le_of_lt hn) (Nat.le_refl nf) (fun _ _ _ _ _ => rfl) (CFr_setI 5 _ _ (by omega)) hF
  have e448 : gI (setI w 5 (eB g + 1) (nI (c + 1))) 448 (pQ P r i) = 9 := by rw [gI_setI, up2_ne _ _ (by omega), q2]; exact hw
  have e453 : gI (setI w 5 (eB g + 1) (nI (c + 1))) 453 (pQ P r i) = nI (40 * r + i) := by rw [gI_setI, up2_ne _ _ (by omega), q6]
  have e449 : gI (setI w 5 (eB g + 1) (nI (c + 1))) 449 (pQ P r i) = mA σ 1 (40 * r + i) := by rw [gI_setI, up2_ne _ _ (by omega), q3]
  have h29 : mI (sI σ 34 (nI (c + 1))) 29 = nI (o + 1) := by rw [mI_sI, if_neg (by decide)]; exact hA.1
  have h22 : mI (sI σ 34 (nI (c + 1))) 22 = nI nf := by rw [mI_sI, if_neg (by decide)]; exact hB.2.2.2.1.2.2.2.2.2
  have h30 : mI (sI σ 34 (nI (c + 1))) 30 = nI (40 * r + i) := by rw [mI_sI, if_neg (by decide)]; exact hA.2.2.2.2.1
  obtain ⟨hob, kd, m, h1, h2, h3, h4, h5, h6, h7, h8, h9, hch, h10, h11⟩ := id hF1
  have hφ : φ < nf := hch.1
  by_cases hm5 : m = 5
  · subst hm5
    refine c_stepWrap (by omega) hB.1 q1 hB.2.2.2.1.2.1 hc (by rw [q2]; exact hw) (f := cf) (v9 := 3) (fun Q k => c_useWrapT (by omega) hB1.1 q1 hob e448 (by rw [h8]; decide) k) ?_
    rw [e453]
    exact SRes_throw (kd := 10) (be := -1) (em := 0) (MS_order hd2 hG hA.2.2.2.1 (nPrt hw (by decide)) (by rw [hw]; decide) hB.2.2.2.1.2.2.1 hc (fun w' hS' Q k => m_ordWrap (by omega) hS' hG.2.2.2.2.2.2.1 hw (m_wrapTired (t := tc) (by omega) hS' h29 (by omega) hT h24 (by omega) h9 h22 hn ⟨rfl, rfl, by rw [show (10 : Int32) = nI 10 from rfl, mFail_eq h30]; exact k⟩))) hB hc hA (FR_new hB1.1 (by omega) (by omega))
  · have hlt : nI m < 5 := nI_lt (b := 5) (by omega) (by decide)
    have hne : ¬ mA (sI σ 34 (nI (c + 1))) 20 φ = 5 := by
      rw [h9]
      exact fun q => hm5 ((nI_eq (a := m) (b := 5) (by omega) (by decide)).mp q)
    refine c_stepWrap (by omega) hB.1 q1 hB.2.2.2.1.2.1 hc (by rw [q2]; exact hw) (f := cf) (v9 := 3) (fun Q k => c_useWrap (by omega) hB1.1 q1 hob e448 (by rw [h8]; exact hlt) k) ?_
    rw [e453, e449]
    exact SRes_throw (kd := 11) (be := nI φ) (em := mA (sI σ 34 (nI (c + 1))) 20 φ + 1) (MS_order hd2 hG hA.2.2.2.1 (nPrt hw (by decide)) (by rw [hw]; decide) hB.2.2.2.1.2.2.1 hc (fun w' hS' Q k => m_ordWrap (by omega) hS' hG.2.2.2.2.2.2.1 hw (m_wrapOn (t := tc) (by omega) hS' h29 (by omega) hT hG.2.2.2.2.2.2.1 h24 (by omega) hne h22 hn ⟨rfl, rfl, k⟩))) hB hc hA (FR_wrap hB1.1 hn hne hF1)
end STEP
