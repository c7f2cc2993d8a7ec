theorem mPush_at (σ : MW) (o : Nat) (k s l : Int32) : mA (mPush σ o k s l) 21 o = k ∧ mA (mPush σ o k s l) 22 o = s ∧ mA (mPush σ o k s l) 23 o = l ∧ mA (mPush σ o k s l) 24 o = -1 ∧ mA (mPush σ o k s l) 25 o = 0 := by
  refine ⟨?_, ?_, ?_, ?_, ?_⟩ <;> simp [mPush, mA_sI, mA_sA]
theorem topR_push {σ σ' : MW} {b nf t r : Nat} (hM : MFr σ σ' b nf) (hk : ¬ mA σ' 21 b = 0) (h : topR σ b t r) : topR σ' (b + 1) t r := by
  obtain ⟨h1, h2, h3, h4, h5⟩ := topR_same hM (Nat.le_refl b) h
  refine ⟨by omega, h2, fun j q1 q2 => ?_, h4, h5⟩
  by_cases e : j = b
  · rw [e]; exact hk
  · exact h3 j q1 (by omega)
theorem Cau_push {g : GE} {w w' : GW} {σ σ' : MW} {o nf nf' : Nat} {cau : Option Nat} {cc : Bool} (hM : MFr σ σ' (o + 1) nf) (hk : ¬ mA σ' 21 (o + 1) = 4) (hC : CFr g w w') (hN : nf ≤ 600) (hn : nf ≤ nf') (h : Cau g w σ o nf cau cc) : Cau g w' σ' (o + 1) nf' cau cc := by
  intro q
  obtain ⟨cf, φ, tc, h1, h2, h3, h4⟩ := Cau_same hM (Nat.le_refl _) hC hN hn h q
  refine ⟨cf, φ, tc, h1, h2, ⟨by have := h3.1; omega, h3.2.1, fun j q1 q2 => ?_⟩, h4⟩
  by_cases e : j = o + 1
  · rw [e]; exact hk
  · exact h3.2.2 j q1 (by omega)
section STEP4
variable {g : GE} {P : PG} {d d2 r s i o tr cl c nf h t n : Nat} {l cc : Bool} {w : GW} {σ : MW} {cau : Option Nat}
theorem MS_end {q : Nat} {σ' : MW} (hd2 : 12 ≤ d2) (hG : GoX g σ r s q o tr) (hw : mI σ 31 = 0) (hp : isPrt (mA σ 0 (40 * r + q))) (hM : ∀ w', SK g w' → ∀ Q : Option Value → GW → Prop, Q none (put g σ' w') → gM g (d2 - 2) mX10_endPart [.ref (eB g + 70)] (put g σ w') (fun r w1 => r = none ∧ Q none w1)) : MS g d2 1 σ σ' := by
  obtain ⟨g1, g2, g3, g4, g5, g6, g7, g8⟩ := hG
  refine MS_go hd2 g1 g2 hw (fun w' hS' Q k => ?_)
  have hh := hM w' hS' Q k
  rw [show d2 - 2 = d2 - 1 - 1 by omega] at hh
  rcases hp with e | e | e
  · exact m_goEnd0 (by omega) hS' g1 g2 g3 g4 g5 g6 g7 g8 e hh
  · exact m_goEnd2 (by omega) hS' g1 g2 g3 g4 g5 g6 g7 g8 e hh
  · exact m_goEnd3 (by omega) hS' g1 g2 g3 g4 g5 g6 g7 g8 e hh
/-- the frame on top is taken off: nothing else -/
theorem Out_pop {w : GW} {σ : MW} {r t t' : Nat} {l : Bool} {nf : Nat} {v x : Int32} (hv : ¬ v = 0) (h : Out g w σ r t l nf v) : Out g w (sI σ 29 x) r t' l nf v := by
  rcases h with q | q | q | q
  · exact absurd q.1 hv
  · exact Or.inr (Or.inl ⟨q.1, by rw [mI_sI, if_neg (by decide)]; exact q.2.1, q.2.2⟩)
  · exact Or.inr (Or.inr (Or.inl ⟨q.1, by rw [mI_sI, if_neg (by decide)]; exact q.2.1, q.2.2⟩))
  · obtain ⟨q1, q2, f, φ, q3, q4, q5⟩ := q
    exact Or.inr (Or.inr (Or.inr ⟨q1, by rw [mI_sI, if_neg (by decide)]; exact q2, f, φ, q3, by rw [mI_sI, if_neg (by decide)]; exact q4, q5⟩))
theorem Out_way {w : GW} {σ : MW} {r t : Nat} {l : Bool} {nf : Nat} {v : Int32} (h : Out g w σ r t l nf v) : mI σ 31 = v := by
  rcases h with q | q | q | q
  · rw [q.1]; exact q.2.1
  · rw [q.1]; exact q.2.1
  · rw [q.1]; exact q.2.1
  · rw [q.1]; exact q.2.1
/-- what a block's opener is, on both sides -/
theorem stepE (hP : PR1 g P w (mA σ) r s) (hi : i < s) {e : Nat} (he : pE P r i = e) (hie : i < e) : e < s ∧ mA σ 4 (40 * r + i) = nI (40 * r + e) ∧ nxt P r i = e + 1 := by
  have h := hP.2.2.2.2.2.2 i hi
  rw [he] at h
  refine ⟨h.1, h.2 (by omega), ?_⟩
  unfold nxt
  rw [he, if_pos hie]
/-- the steps of the part that begins at q and ends at e -/
theorem part_of {σ2 : MW} {w2 : GW} {q e k o2 : Nat} {l2 cc2 : Bool} {cau2 : Option Nat} {c2 nf2 : Nat} {Q : Int32 → GW → Prop} (H : Sim g P d2 n cl h) (hd : 5 * h + 11 ≤ d) (hr : r < 4) (hB : Base g P w2 σ2 c2 nf2) (hP : PR1 g P w2 (mA σ2) r s) (hq : q < s) (hqe : q < e) (hN : pN P r q = some e) (hW : WS (fun i => mA σ2 0 (40 * r + i)) (pN P r) (pE P r) k n l2 (q + 1) e cc2) (hA : At g w2 σ2 r (q + 1) o2 tr cl) (hCa : Cau g w2 σ2 o2 nf2 cau2 cc2) (hcap : Cap c2 nf2 h) (ho : o2 + h ≤ 50) (hQ : ∀ v w', gN w2 ≤ gN w' → Res g P d2 w2 σ2 r e l2 o2 cl c2 nf2 (3 * h + 1) v w' → Q v w') : gMI g d mX0_doPart [.ref (eB g + 1), .ref (aRt g r), .ref (pQ P r q), va_rf cau2, .int (nI cl)] w2 Q := by
  obtain ⟨a1, a2, a3, a4, a5, a6, a7, a8, a9, a10, a11⟩ := hP.2.2.2.2.1 q hq
  have he := (hP.2.2.2.2.2.1 q e hq hN).1
  obtain ⟨b1, b2, b3, b4, b5, b6, b7, b8, b9, b10, b11⟩ := hP.2.2.2.2.1 e he
  refine c_doPart (by omega) hB.1 a2 a7 (by rw [a10, hN]; rfl) b2 b7 ?_
  exact (H (d - 1) k r s (q + 1) e o2 tr c2 nf2 l2 cc2 w2 σ2 cau2 (by omega) hr hB hP (by omega) (by omega) hW hA hCa hcap ho).imp hQ
theorem sim_ifOn (H : Sim g P d2 n cl h) (hd : 5 * (h + 1) + 9 ≤ d) (hd2 : 12 ≤ d2) (hr : r < 4) (hB : Base g P w σ c nf) (hc : c < 200) (hP : PR1 g P w (mA σ) r s) (hi : i < s) (hA : At g w σ r i o tr cl) (hCa : Cau g w σ o nf cau cc) (hcap : Cap c nf (h + 1)) (ho : o + (h + 1) ≤ 50) (hw : mA σ 0 (40 * r + i) = 11) {a b e k : Nat} (ha : mA σ 1 (40 * r + i) = nI a) (ha8 : a < 8) (hb : mA σ 3 (40 * r + i) = nI b) (hb8 : b < 8) (hso : fSo (mA σ 2 (40 * r + i)) (mD σ 11 a) (mD σ 11 b) = 1) (he : pE P r i = e) (hie : i < e) (hN : pN P r i = some e) (h0 : mA σ 0 (40 * r + e) = 0) (hW : WS (fun i => mA σ 0 (40 * r + i)) (pN P r) (pE P r) k n l (i + 1) e cc) : gMI g d mX0_doStep [.ref (eB g + 1), .ref (aRt g r), .ref (pQ P r i), va_rf cau, .int (nI cl)] w (SRes g P d2 w σ r (nxt P r i) l o cl c nf (h + 1)) := by
  obtain ⟨q1, q2, q3, q4, q5, q6, q7⟩ := stepQ hP hi
  have hG := GoX_of hr hP hi hA ho
  obtain ⟨hes, he4, hnx⟩ := stepE hP hi he hie
  obtain ⟨hDa, hDb⟩ := And.intro (hB.2.2.1.1 a ha8) (hB.2.2.1.1 b hb8)
  have hnn := dcmp_nn hDa.2.1 hDb.2.1
  have hB1 := Base_count hB hc
  unfold Cap at hcap
  refine c_stepIfOn (a := a) (c9 := b) (by omega) hB.1 q1 hB.2.2.2.1.2.1 hc (by rw [q2]; exact hw) (by rw [q3]; exact ha) ha8 (by rw [q5]; exact hb) hb8 (by rw [hDa.1, hDb.1]; exact hnn) (by rw [hDa.1, hDb.1, q4]; exact hso) ?_
  have hM0 : MS g d2 1 σ (mIfOn (sI σ 34 (nI (c + 1))) (o + 1) (40 * r + i)) := MS_order hd2 hG hA.2.2.2.1 (nPrt hw (by decide)) (by rw [hw]; decide) hB.2.2.2.1.2.2.1 hc (fun w' hS' Q k => m_ordIfOn (by omega) hS' hG.2.2.2.2.2.2.1 hw ha ha8 hb hb8 hnn hso (by rw [mI_sI, if_neg (by decide)]; exact hA.1) (by omega) ⟨rfl, k⟩)
  obtain ⟨p1, p2, p3, p4, p5⟩ := mPush_at (sI σ 34 (nI (c + 1))) (o + 1) 2 (nI (40 * r + i)) 0
  have hF : MFr σ (mIfOn (sI σ 34 (nI (c + 1))) (o + 1) (40 * r + i)) (o + 1) nf := ((MFr_sI (f := 34) (by omega)).thn (MFr_push (nf := nf) (Nat.le_refl (o + 1))) (Nat.le_refl _) (Nat.le_refl _)).I 30 _ (by omega)
  have hB2 : Base g P (setI w 5 (eB g + 1) (nI (c + 1))) (mIfOn (sI σ 34 (nI (c + 1))) (o + 1) (40 * r + i)) (c + 1) nf := Base_I 30 _ (Base_push hB1) (by omega)
  have e29 : mI (mIfOn (sI σ 34 (nI (c + 1))) (o + 1) (40 * r + i)) 29 = nI (o + 1 + 1) := by unfold mIfOn; rw [mI_sI, if_neg (by decide), mI_push, if_pos rfl]
  have eI : ∀ f, f ≠ 29 → f ≠ 30 → f ≠ 34 → mI (mIfOn (sI σ 34 (nI (c + 1))) (o + 1) (40 * r + i)) f = mI σ f := fun f f1 f2 f3 => by unfold mIfOn; rw [mI_sI, if_neg f2, mI_push, if_neg f1, mI_sI, if_neg f3]
  have e30 : mI (mIfOn (sI σ 34 (nI (c + 1))) (o + 1) (40 * r + i)) 30 = nI (40 * r + (i + 1)) := by unfold mIfOn; rw [mI_sI, if_pos rfl]; rfl
  have p1' : mA (mIfOn (sI σ 34 (nI (c + 1))) (o + 1) (40 * r + i)) 21 (o + 1) = 2 := p1
  generalize mIfOn (sI σ 34 (nI (c + 1))) (o + 1) (40 * r + i) = σ2 at *
  have hC1 : CFr g w (setI w 5 (eB g + 1) (nI (c + 1))) := CFr_setI 5 _ _ (by omega)
  have hP2 : PR1 g P (setI w 5 (eB g + 1) (nI (c + 1))) (mA σ2) r s := hB2.pr1 hr hP (hF.1 6 r (by omega))
  refine part_of (k := k) (o2 := o + 1) (tr := tr) (l2 := l) (cc2 := cc) H (by omega) hr hB2 hP2 hi hie hN (by rw [wh_same hF]; exact hW) ⟨e29, topR_push hF (by rw [p1']; decide) hA.2.1, by rw [eI _ (by decide) (by decide) (by decide)]; exact hA.2.2.1, by rw [eI _ (by decide) (by decide) (by decide)]; exact hA.2.2.2.1, e30, hA.2.2.2.2.2⟩ (Cau_push hF (by rw [p1']; decide) hC1 (by omega) (Nat.le_refl nf) hCa) (by unfold Cap; omega) (by omega) ?_
  intro v w' _ hR
  obtain ⟨σ', c', nf', k', r1, r2, r3, r4, r5, r6, r7, r8, r9⟩ := hR
  have k21 : mA σ' 21 (o + 1) = 2 := by rw [r4.2.2.1 _ _ (by omega) (by omega) (by omega)]; exact p1'
  have hFr : MFr σ σ' (o + 1) nf := hF.thn r4 (by omega) (Nat.le_refl nf)
  have hP3 : PR1 g P w' (mA σ') r s := r2.pr1 hr hP (hFr.1 6 r (by omega))
  have hcc := r2.2.2.2.1.1
  unfold Bnd at r5
  refine ⟨?_, fun q => absurd q (by omega)⟩
  by_cases hv : v = 0
  · subst hv
    have o0 : mI σ' 31 = 0 ∧ mI σ' 30 = nI (40 * r + e) ∧ gR w' 8 (eB g + 1) = none := by
      rcases r9 with q | q | q | q
      · exact q.2
      · exact absurd q.1 (by decide)
      · exact absurd q.1 (by decide)
      · exact absurd q.1 (by decide)
    have hG' : GoX g σ' r s e (o + 1) tr := GoX_of hr hP3 hes ⟨r7, topR_push hFr (by rw [k21]; decide) hA.2.1, r8, o0.1, o0.2.1, o0.2.2⟩ (h := h) (by omega)
    have hMe : MS g d2 1 σ' (mEndIf σ' (o + 1) (40 * r + e)) := MS_end hd2 hG' o0.1 (Or.inl (by rw [hFr.1 _ _ (by omega)]; exact h0)) (fun w1 hS1 Q kk => m_endIf hS1 r7 (by omega) k21 o0.2.1 ⟨rfl, kk⟩)
    refine ⟨mEndIf σ' (o + 1) (40 * r + e), c', nf', 1 + k' + 1, (hM0.thn r1).thn hMe, Base_I 30 _ (Base_I 29 _ r2 (by omega)) (by omega), hC1.thn r3, (hFr.I 29 _ (by omega)).I 30 _ (by omega), by unfold Bnd; omega, r6, ?_, ?_, Or.inl ⟨rfl, ?_, ?_, o0.2.2⟩⟩
    · unfold mEndIf; rw [mI_sI, if_neg (by decide), mI_sI, if_pos rfl]
    · unfold mEndIf; rw [mI_sI, if_neg (by decide), mI_sI, if_neg (by decide)]; exact r8
    · unfold mEndIf; rw [mI_sI, if_neg (by decide), mI_sI, if_neg (by decide)]; exact o0.1
    · unfold mEndIf; rw [mI_sI, if_pos rfl, hnx]; rfl
  · have hMe : MS g d2 1 σ' (sI σ' 29 (nI (o + 1))) := MS_leave hd2 r7 (by omega) (by rw [Out_way r9]; exact hv) (fun w1 hS1 Q kk => m_leaveIf hS1 r7 (by omega) k21 kk)
    exact ⟨sI σ' 29 (nI (o + 1)), c', nf', 1 + k' + 1, (hM0.thn r1).thn hMe, Base_I 29 _ r2 (by omega), hC1.thn r3, hFr.I 29 _ (by omega), by unfold Bnd; omega, r6, by rw [mI_sI, if_pos rfl], by rw [mI_sI, if_neg (by decide)]; exact r8, Out_pop hv r9⟩
theorem sim_callOn (H : Sim g P d2 6 (cl + 1) h) (hd : 5 * (h + 1) + 9 ≤ d) (hd2 : 12 ≤ d2) (hr : r < 4) (hB : Base g P w σ c nf) (hc : c < 200) (hP : PR1 g P w (mA σ) r s) (hi : i < s) (hA : At g w σ r i o tr cl) {h' : Nat} (hh : h + 1 ≤ h') (hcap : Cap c nf h') (ho : o + h' ≤ 50) (hw : mA σ 0 (40 * r + i) = 12) {a : Nat} (ha : mA σ 1 (40 * r + i) = nI a) (ha4 : a < 4) (hcl : cl < 4) (hT : mA σ 7 a = 0) (ht : t = i + 1) : gMI g d mX0_doStep [.ref (eB g + 1), .ref (aRt g r), .ref (pQ P r i), va_rf cau, .int (nI cl)] w (SRes g P d2 w σ r t l o cl c nf h') := by
  obtain ⟨q1, q2, q3, q4, q5, q6, q7⟩ := stepQ hP hi
  have hG := GoX_of hr hP hi hA ho
  have hB1 := Base_count hB hc
  obtain ⟨s', hP', -, hWx⟩ := hB.2.1 a ha4
  obtain ⟨kf, hW⟩ := hWx hT
  unfold Cap at hcap
  have hM0 : MS g d2 1 σ (mCall (sI σ 34 (nI (c + 1))) (o + 1) a (40 * r + i) cl) := MS_order hd2 hG hA.2.2.2.1 (nPrt hw (by decide)) (by rw [hw]; decide) hB.2.2.2.1.2.2.1 hc (fun w' hS' Q k => m_ordCall (by omega) hS' hG.2.2.2.2.2.2.1 hw (m_callOn (by omega) hS' hG.2.2.2.2.2.2.1 ha ha4 hT (by rw [mI_sI, if_neg (by decide)]; exact hA.2.2.1) hcl (by rw [mI_sI, if_neg (by decide)]; exact hA.1) (by omega) ⟨rfl, rfl, k⟩))
  obtain ⟨p1, p2, p3, p4, p5⟩ := mPush_at (sI (sI σ 34 (nI (c + 1))) 33 (nI (cl + 1))) (o + 1) 0 (nI a) (nI (40 * r + i + 1))
  have hF : MFr σ (mCall (sI σ 34 (nI (c + 1))) (o + 1) a (40 * r + i) cl) (o + 1) nf := ((((MFr_refl σ (o + 1) nf).I 34 (nI (c + 1)) (by omega)).I 33 (nI (cl + 1)) (by omega)).thn (MFr_push (nf := nf) (Nat.le_refl (o + 1))) (Nat.le_refl _) (Nat.le_refl _)).I 30 _ (by omega)
  have hB2 : Base g P (setI w 5 (eB g + 1) (nI (c + 1))) (mCall (sI σ 34 (nI (c + 1))) (o + 1) a (40 * r + i) cl) (c + 1) nf := Base_I 30 _ (Base_push (Base_I 33 _ hB1 (by omega))) (by omega)
  have e29 : mI (mCall (sI σ 34 (nI (c + 1))) (o + 1) a (40 * r + i) cl) 29 = nI (o + 1 + 1) := by unfold mCall mBegin; rw [mI_sI, if_neg (by decide), mI_push, if_pos rfl]
  have e33 : mI (mCall (sI σ 34 (nI (c + 1))) (o + 1) a (40 * r + i) cl) 33 = nI (cl + 1) := by unfold mCall mBegin; rw [mI_sI, if_neg (by decide), mI_push, if_neg (by decide), mI_sI, if_pos rfl]
  have e31 : mI (mCall (sI σ 34 (nI (c + 1))) (o + 1) a (40 * r + i) cl) 31 = 0 := by unfold mCall mBegin; rw [mI_sI, if_neg (by decide), mI_push, if_neg (by decide), mI_sI, if_neg (by decide), mI_sI, if_neg (by decide)]; exact hA.2.2.2.1
  have e30 : mI (mCall (sI σ 34 (nI (c + 1))) (o + 1) a (40 * r + i) cl) 30 = nI (40 * a + 0) := by unfold mCall mBegin; rw [mI_sI, if_pos rfl]; rfl
  have p1' : mA (mCall (sI σ 34 (nI (c + 1))) (o + 1) a (40 * r + i) cl) 21 (o + 1) = 0 := p1
  have p2' : mA (mCall (sI σ 34 (nI (c + 1))) (o + 1) a (40 * r + i) cl) 22 (o + 1) = nI a := p2
  have p3' : mA (mCall (sI σ 34 (nI (c + 1))) (o + 1) a (40 * r + i) cl) 23 (o + 1) = nI (40 * r + i + 1) := p3
  generalize mCall (sI σ 34 (nI (c + 1))) (o + 1) a (40 * r + i) cl = σ2 at *
  have hC1 : CFr g w (setI w 5 (eB g + 1) (nI (c + 1))) := CFr_setI 5 _ _ (by omega)
  have hP2 : PR1 g P (setI w 5 (eB g + 1) (nI (c + 1))) (mA σ2) a s' := hB2.pr1 ha4 hP' (hF.1 6 a (by omega))
  have hT2 : topR σ2 (o + 1 + 1) (o + 1) a := ⟨by omega, p1', fun j q1 q2 => absurd q1 (by omega), p2', ha4⟩
  have hsim := H (d - 1 - 1) kf a s' 0 s' (o + 1) (o + 1) (c + 1) nf false false (setI w 5 (eB g + 1) (nI (c + 1))) σ2 none (by omega) ha4 hB2 hP2 (Nat.le_refl s') (Nat.zero_le s') (by rw [wh_same hF]; exact hW) ⟨e29, hT2, e33, e31, e30, hA.2.2.2.2.2⟩ (fun q => absurd q (by decide)) (by unfold Cap; omega) (by omega)
  rw [nI_0] at hsim
  refine c_stepCall (by omega) hB.1 q1 hB.2.2.2.1.2.1 hc (by rw [q2]; exact hw) (c_callOn (cau := none) (r := a) (s := s') (by omega) hB1.1 q1 (by rw [gI_setI, up2_ne _ _ (by omega), q3]; exact ha) ha4 (by rw [gI_setI, up2_ne _ _ (by omega), hP'.2.2.2.1]; exact hT) hcl hP2.2.1 _ hsim ?_ ?_)
  · intro w1 hR
    obtain ⟨σ', c', nf', k', r1, r2, r3, r4, r5, r6, r7, r8, r9⟩ := hR
    have k21 : mA σ' 21 (o + 1) = 0 := by rw [r4.2.2.1 _ _ (by omega) (by omega) (by omega)]; exact p1'
    have hFr : MFr σ σ' (o + 1) nf := hF.thn r4 (by omega) (Nat.le_refl nf)
    have hwy := Out_way r9
    have hcc := r2.2.2.2.1.1
    unfold Bnd at r5
    have hMe : MS g d2 1 σ' (mLeaveR σ' (o + 1)) := MS_leave hd2 r7 (by omega) (by rw [hwy]; decide) (fun w1 hS1 Q kk => m_leaveRt hS1 r7 (by omega) k21 (by rw [hwy]; decide) kk)
    refine ⟨⟨mLeaveR σ' (o + 1), c', nf', 1 + k' + 1, (hM0.thn r1).thn hMe, Base_I 33 _ (Base_I 29 _ r2 (by omega)) (by omega), hC1.thn r3, (hFr.I 29 _ (by omega)).I 33 _ (by omega), by unfold Bnd; omega, r6, ?_, ?_, ?_⟩, fun q => absurd q (by omega)⟩
    · unfold mLeaveR; rw [mI_sI, if_neg (by decide), mI_sI, if_pos rfl]
    · unfold mLeaveR; rw [mI_sI, if_pos rfl, r8]; exact nI_pred cl
    · rcases r9 with q | q | q | q
      · exact absurd q.1 (by decide)
      · exact absurd q.1 (by decide)
      · exact absurd q.1 (by decide)
      · obtain ⟨z1, z2, f, φ, z3, z4, z5⟩ := q
        exact Or.inr (Or.inr (Or.inr ⟨rfl, by unfold mLeaveR; rw [mI_sI, if_neg (by decide), mI_sI, if_neg (by decide)]; exact z2, f, φ, z3, by unfold mLeaveR; rw [mI_sI, if_neg (by decide), mI_sI, if_neg (by decide)]; exact z4, z5⟩))
  · intro v w1 hR hv3
    obtain ⟨σ', c', nf', k', r1, r2, r3, r4, r5, r6, r7, r8, r9⟩ := hR
    have k21 : mA σ' 21 (o + 1) = 0 := by rw [r4.2.2.1 _ _ (by omega) (by omega) (by omega)]; exact p1'
    have k23 : mA σ' 23 (o + 1) = nI (40 * r + i + 1) := by rw [r4.2.2.1 _ _ (by omega) (by omega) (by omega)]; exact p3'
    have k22 : mA σ' 22 (o + 1) = nI a := by rw [r4.2.2.1 _ _ (by omega) (by omega) (by omega)]; exact p2'
    have hFr : MFr σ σ' (o + 1) nf := hF.thn r4 (by omega) (Nat.le_refl nf)
    have hcc := r2.2.2.2.1.1
    have hP3 : PR1 g P w1 (mA σ') a s' := r2.pr1 ha4 hP' (hFr.1 6 a (by omega))
    unfold Bnd at r5
    have hend : gR w1 8 (eB g + 1) = none ∧ MS g d2 1 σ' (mOver σ' (o + 1)) := by
      rcases r9 with q | q | q | q
      · refine ⟨q.2.2.2, MS_go hd2 r7 (by omega) q.2.1 (fun w1 hS1 Q kk => m_goOver (t := o + 1) (r := a) (s := s') (by omega) hS1 r7 (by omega) ⟨by omega, k21, fun j q1 q2 => absurd q1 (by omega), k22, ha4⟩ hP3.2.2.1 hP3.1 q.2.2.1 kk)⟩
      · exact absurd q.2.2.1 (by decide)
      · exact ⟨q.2.2, MS_leave hd2 r7 (by omega) (by rw [q.2.1]; decide) (fun w1 hS1 Q kk => m_leaveRet (by omega) hS1 r7 (by omega) k21 q.2.1 kk)⟩
      · exact absurd q.1 hv3
    refine ⟨⟨mOver σ' (o + 1), c', nf', 1 + k' + 1, (hM0.thn r1).thn hend.2, Base_I 31 _ (Base_I 33 _ (Base_I 30 _ (Base_I 29 _ r2 (by omega)) (by omega)) (by omega)) (by omega), hC1.thn r3, (((hFr.I 29 _ (by omega)).I 30 _ (by omega)).I 33 _ (by omega)).I 31 _ (by omega), by unfold Bnd; omega, r6, ?_, ?_, Or.inl ⟨rfl, ?_, ?_, hend.1⟩⟩, fun q => absurd q (by omega)⟩
    · unfold mOver; rw [mI_sI, if_neg (by decide), mI_sI, if_neg (by decide), mI_sI, if_neg (by decide), mI_sI, if_pos rfl]
    · unfold mOver; rw [mI_sI, if_neg (by decide), mI_sI, if_pos rfl, r8]; exact nI_pred cl
    · unfold mOver; rw [mI_sI, if_pos rfl]
    · unfold mOver; rw [mI_sI, if_neg (by decide), mI_sI, if_neg (by decide), mI_sI, if_pos rfl, k23, ht]; rfl
end STEP4
