theorem Base_throw {g : GE} {P : PG} {w1 : GW} {σ1 : MW} {c1 nf kd : Nat} {pl nu be em e5 f5 t5 : Int32} (hB : Base g P w1 σ1 c1 nf) : Base g P (thrF g w1 (nI kd) pl nu e5 f5 t5) (mThrow σ1 nf (nI kd) pl nu be em) c1 (nf + 1) := by
  refine Base_same hB CFr_thrF (MFr_throw (Nat.le_refl nf) (b := 0)) (Nat.le_refl c1) (Sm_mk (SmC_thrF hB.1) (SmM_throw (SmM_refl σ1))) ?_
  obtain ⟨n1, n2, n3, n4, n5, n6⟩ := hB.2.2.2.1
  have o1 := (hB.1.ob 1 rfl).2.1
  refine ⟨n1, by rw [gI_thrF_old o1]; exact n2, ?_, ?_, ?_, ?_⟩
  · rw [mI_throw, if_neg (by decide), if_neg (by decide), if_neg (by decide)]; exact n3
  · rw [gI_thrF_old o1, mI_throw, if_neg (by decide), if_neg (by decide), if_neg (by decide)]; exact n4
  · rw [gI_thrF_old o1, mI_throw, if_neg (by decide), if_neg (by decide), if_neg (by decide)]; exact n5
  · rw [mI_throw, if_pos rfl]
/-- the next of the model's rounds calls round() in state ρ -/
def Pend (g : GE) (d2 : Nat) (σj ρ : MW) : Prop := ∀ σ' : MW, (∀ w', SK g w' → ∀ Q : Option Value → GW → Prop, Q none (put g σ' w') → gM g (d2 - 3) mX10_round [.ref (eB g + 70)] (put g ρ w') (fun r w1 => r = none ∧ Q none w1)) → MS g d2 1 σj σ'
def LpI (g : GE) (P : PG) (d2 : Nat) (w : GW) (σ : MW) (p a o cl c nf h j : Nat) (w1 : GW) : Prop :=
  ∃ (σj ρ : MW) (cj nfj kj : Nat), MS g d2 kj σ σj ∧ Pend g d2 σj ρ ∧ Base g P w1 ρ cj nfj ∧ CFr g w w1 ∧ MFr σ ρ (o + 1) nf ∧ gN w1 + nf = gN w + nfj ∧ mI ρ 29 = nI (o + 1 + 1) ∧ mA ρ 21 (o + 1) = 1 ∧ mA ρ 22 (o + 1) = nI p ∧ mA ρ 23 (o + 1) = nI (a - j) ∧ mI ρ 33 = nI cl ∧ mI ρ 31 = 0 ∧ gR w1 8 (eB g + 1) = none ∧ (c + 1 ≤ cj ∧ nf ≤ nfj ∧ kj + 1 + 4 * c + 4 * nf ≤ 4 * cj + 4 * nfj ∧ (cj < 200 → nfj + c ≤ nf + cj) ∧ nfj + c ≤ nf + cj + 3 * h + 1)
section STEP5
variable {g : GE} {P : PG} {d d2 r s i o tr cl c nf h t n : Nat} {l cc : Bool} {w : GW} {σ : MW} {cau : Option Nat}
theorem sim_loop (H : Sim g P d2 n cl h) (hd : 5 * (h + 1) + 9 ≤ d) (hd2 : 12 ≤ d2) (hr : r < 4) (hB : Base g P w σ c nf) (hc : c < 200) (hP : PR1 g P w (mA σ) r s) (hi : i < s) (hA : At g w σ r i o tr cl) (hCa : Cau g w σ o nf cau cc) (hcap : Cap c nf (h + 1)) (ho : o + (h + 1) ≤ 50) (hw : mA σ 0 (40 * r + i) = 4) {a e k : Nat} (ha : mA σ 1 (40 * r + i) = nI a) (ha7 : a < 7) (he : pE P r i = e) (hie : i < e) (hN : pN P r i = some e) (h0 : mA σ 0 (40 * r + e) = 0) (hW : WS (fun i => mA σ 0 (40 * r + i)) (pN P r) (pE P r) k n true (i + 1) e cc) : gMI g d mX0_doStep [.ref (eB g + 1), .ref (aRt g r), .ref (pQ P r i), va_rf cau, .int (nI cl)] w (SRes g P d2 w σ r (nxt P r i) l o cl c nf (h + 1)) := by
  obtain ⟨q1, q2, q3, q4, q5, q6, q7⟩ := stepQ hP hi
  have hG := GoX_of hr hP hi hA ho
  obtain ⟨hes, he4, hnx⟩ := stepE hP hi he hie
  have hB1 := Base_count hB hc
  have hp160 := hG.2.2.2.2.2.2.1
  unfold Cap at hcap
  have hC1 : CFr g w (setI w 5 (eB g + 1) (nI (c + 1))) := CFr_setI 5 _ _ (by omega)
  refine c_stepLoop (by omega) hB.1 q1 hB.2.2.2.1.2.1 hc (by rw [q2]; exact hw) (c_doLoop (by omega) ha7 (LpI g P d2 w σ (40 * r + i) a o cl c nf h) ?_ ?_ ?_)
  · obtain ⟨p1, p2, p3, p4, p5⟩ := mPush_at (sI σ 34 (nI (c + 1))) (o + 1) 1 (nI (40 * r + i)) (nI a)
    refine ⟨σ, mPush (sI σ 34 (nI (c + 1))) (o + 1) 1 (nI (40 * r + i)) (nI a), c + 1, nf, 0, MS_same, fun σ' hσ => ?_, Base_push hB1, hC1, (MFr_sI (f := 34) (by omega)).thn (MFr_push (nf := nf) (Nat.le_refl (o + 1))) (Nat.le_refl _) (Nat.le_refl _), rfl, by rw [mI_push, if_pos rfl], p1, p2, p3, ?_, ?_, hA.2.2.2.2.2, by omega⟩
    · refine MS_order hd2 hG hA.2.2.2.1 (nPrt hw (by decide)) (by rw [hw]; decide) hB.2.2.2.1.2.2.1 hc (fun w' hS' Q k => m_ordLoop (by omega) hS' hp160 hw (by rw [mI_sI, if_neg (by decide)]; exact hA.1) (by omega) ?_)
      rw [Nat.sub_sub, show mA (sI σ 34 (nI (c + 1))) 1 (40 * r + i) = nI a from ha]
      exact hσ w' hS' (fun r w1 => r = none ∧ Q none w1) ⟨rfl, k⟩
    · rw [mI_push, if_neg (by decide), mI_sI, if_neg (by decide)]; exact hA.2.2.1
    · rw [mI_push, if_neg (by decide), mI_sI, if_neg (by decide)]; exact hA.2.2.2.1
  · intro j w1 hI hj
    obtain ⟨σj, ρ, cj, nfj, kj, m1, m2, m3, m4, m5, m6, m7, m8, m9, m10, m11, m12, m13, m14⟩ := hI
    have hP1 : PR1 g P w1 (mA ρ) r s := m3.pr1 hr hP (m5.1 6 r (by omega))
    obtain ⟨z1, z2, z3, z4, z5, z6, z7⟩ := stepQ hP1 hi
    have hcj := m3.2.2.2.1.1
    have hl : a - j = (a - j - 1) + 1 := by omega
    refine ⟨cj, m3.1, z1, by rw [z3, m5.1 1 _ (by omega)]; exact ha, m3.2.2.2.1.2.1, hcj, fun h200 => ?_, fun h200 => ?_⟩
    · subst h200
      rw [z6]
      have hBρ : Base g P w1 (sI (sA ρ 23 (o + 1) (nI (a - j - 1))) 30 (nI (40 * r + i))) 200 nfj := Base_I 30 _ (Base_A 23 _ _ m3 (by omega)) (by omega)
      have hMρ : MFr σ (sI (sA ρ 23 (o + 1) (nI (a - j - 1))) 30 (nI (40 * r + i))) (o + 1) nf := (m5.A 23 (o + 1) _ (by omega)).I 30 _ (by omega)
      have e29 : mI (sI (sA ρ 23 (o + 1) (nI (a - j - 1))) 30 (nI (40 * r + i))) 29 = nI (o + 1 + 1) := by rw [mI_sI, if_neg (by decide), mI_sA]; exact m7
      have e33 : mI (sI (sA ρ 23 (o + 1) (nI (a - j - 1))) 30 (nI (40 * r + i))) 33 = nI cl := by rw [mI_sI, if_neg (by decide), mI_sA]; exact m11
      have e30 : mI (sI (sA ρ 23 (o + 1) (nI (a - j - 1))) 30 (nI (40 * r + i))) 30 = nI (40 * r + i) := by rw [mI_sI, if_pos rfl]
      have e21 : mA (sI (sA ρ 23 (o + 1) (nI (a - j - 1))) 30 (nI (40 * r + i))) 21 (o + 1) = 1 := by rw [mA_sI, mA_sA, if_neg (by omega)]; exact m8
      have hMr : MS g d2 1 σj (mThrow (sI (sA ρ 23 (o + 1) (nI (a - j - 1))) 30 (nI (40 * r + i))) nfj (nI 10) (nI (40 * r + i)) 0 (-1) 0) := by
        refine m2 _ (fun w' hS' Q kk => m_roundTired (l := a - j - 1) (p := 40 * r + i) (n := nfj) (by omega) hS' m7 (by omega) (by rw [m10, hl]; rfl) (by omega) m9 hp160 m3.2.2.2.1.2.2.1 m3.2.2.2.1.2.2.2.2.2 (by omega) ⟨rfl, ?_⟩)
        unfold mRoundTired
        rw [show (10 : Int32) = nI 10 from rfl, mFail_eq e30]
        exact kk
      have hFt : MFr (sI (sA ρ 23 (o + 1) (nI (a - j - 1))) 30 (nI (40 * r + i))) (mThrow (sI (sA ρ 23 (o + 1) (nI (a - j - 1))) 30 (nI (40 * r + i))) nfj (nI 10) (nI (40 * r + i)) 0 (-1) 0) (o + 1 + 1) nfj := MFr_throw (Nat.le_refl nfj)
      have hFR := FR_new (g := g) (w := w1) (σ := sI (sA ρ 23 (o + 1) (nI (a - j - 1))) 30 (nI (40 * r + i))) (nf := nfj) (kd := 10) (pl := nI (40 * r + i)) (nu := 0) m3.1 (by omega) (by omega)
      have hBt := Base_throw (kd := 10) (pl := nI (40 * r + i)) (nu := 0) (be := -1) (em := 0) (e5 := 0) (f5 := nI (40 * r + i)) (t5 := fWeight (nI 10) 0 1) hBρ
      generalize sI (sA ρ 23 (o + 1) (nI (a - j - 1))) 30 (nI (40 * r + i)) = ρ1 at *
      have t29 : mI (mThrow ρ1 nfj (nI 10) (nI (40 * r + i)) 0 (-1) 0) 29 = nI (o + 1 + 1) := by rw [mI_throw, if_neg (by decide), if_neg (by decide), if_neg (by decide)]; exact e29
      have t31 : mI (mThrow ρ1 nfj (nI 10) (nI (40 * r + i)) 0 (-1) 0) 31 = 3 := by rw [mI_throw, if_neg (by decide), if_pos rfl]
      have t21 : mA (mThrow ρ1 nfj (nI 10) (nI (40 * r + i)) 0 (-1) 0) 21 (o + 1) = 1 := by rw [hFt.2.2.1 _ _ (by omega) (by omega) (by omega)]; exact e21
      have hMl : MS g d2 1 (mThrow ρ1 nfj (nI 10) (nI (40 * r + i)) 0 (-1) 0) (sI (mThrow ρ1 nfj (nI 10) (nI (40 * r + i)) 0 (-1) 0) 29 (nI (o + 1))) := MS_leave hd2 t29 (by omega) (by rw [t31]; decide) (fun w' hS' Q kk => m_leaveRound hS' t29 (by omega) t21 (by rw [t31]; decide) kk)
      refine ⟨⟨_, 200, nfj + 1, kj + 1 + 1, (m1.thn hMr).thn hMl, Base_I 29 _ hBt (by omega), m4.thn CFr_thrF, (hMρ.thn hFt (by omega) (by omega)).I 29 _ (by omega), by unfold Bnd; omega, by rw [show thrF g w1 10 = thrF g w1 (nI 10) from rfl, gN_thrF]; omega, by rw [mI_sI, if_pos rfl], ?_, Or.inr (Or.inr (Or.inr ⟨rfl, ?_, gN w1, nfj, gR_thrF, ?_, hFR⟩))⟩, fun q => absurd q (by omega)⟩
      · rw [mI_sI, if_neg (by decide), mI_throw, if_neg (by decide), if_neg (by decide), if_neg (by decide)]; exact e33
      · rw [mI_sI, if_neg (by decide)]; exact t31
      · rw [mI_sI, if_neg (by decide), mI_throw, if_neg (by decide), if_neg (by decide), if_pos rfl]
    · have hBρ : Base g P w1 (sI (sA ρ 23 (o + 1) (nI (a - j - 1))) 30 (nI (40 * r + i))) cj nfj := Base_I 30 _ (Base_A 23 _ _ m3 (by omega)) (by omega)
      have hB2 : Base g P (setI w1 5 (eB g + 1) (nI (cj + 1))) (mRoundOn ρ (o + 1) (40 * r + i) (a - j - 1) cj) (cj + 1) nfj := Base_I 30 _ (Base_count hBρ h200) (by omega)
      have hF2 : MFr σ (mRoundOn ρ (o + 1) (40 * r + i) (a - j - 1) cj) (o + 1) nf := (((m5.A 23 (o + 1) _ (by omega)).I 30 _ (by omega)).I 34 _ (by omega)).I 30 _ (by omega)
      have hMr : MS g d2 1 σj (mRoundOn ρ (o + 1) (40 * r + i) (a - j - 1) cj) := m2 _ (fun w' hS' Q kk => m_roundOn (l := a - j - 1) (p := 40 * r + i) (by omega) hS' m7 (by omega) (by rw [m10, hl]; rfl) (by omega) m9 hp160 m3.2.2.2.1.2.2.1 h200 ⟨rfl, kk⟩)
      have eI : ∀ f, f ≠ 30 → f ≠ 34 → mI (mRoundOn ρ (o + 1) (40 * r + i) (a - j - 1) cj) f = mI ρ f := fun f f1 f2 => by unfold mRoundOn; rw [mI_sI, if_neg f1, mI_sI, if_neg f2, mI_sI, if_neg f1, mI_sA]
      have e30 : mI (mRoundOn ρ (o + 1) (40 * r + i) (a - j - 1) cj) 30 = nI (40 * r + (i + 1)) := by unfold mRoundOn; rw [mI_sI, if_pos rfl]; rfl
      have e21 : mA (mRoundOn ρ (o + 1) (40 * r + i) (a - j - 1) cj) 21 (o + 1) = 1 := by unfold mRoundOn; rw [mA_sI, mA_sI, mA_sI, mA_sA, if_neg (by omega)]; exact m8
      have e22 : mA (mRoundOn ρ (o + 1) (40 * r + i) (a - j - 1) cj) 22 (o + 1) = nI (40 * r + i) := by unfold mRoundOn; rw [mA_sI, mA_sI, mA_sI, mA_sA, if_neg (by omega)]; exact m9
      have e23 : mA (mRoundOn ρ (o + 1) (40 * r + i) (a - j - 1) cj) 23 (o + 1) = nI (a - (j + 1)) := by unfold mRoundOn; rw [mA_sI, mA_sI, mA_sI, mA_sA, if_pos ⟨rfl, rfl⟩, Nat.sub_sub]
      generalize mRoundOn ρ (o + 1) (40 * r + i) (a - j - 1) cj = ρ2 at *
      have hC2 : CFr g w (setI w1 5 (eB g + 1) (nI (cj + 1))) := m4.thn (CFr_setI 5 _ _ (by omega))
      have hP2 : PR1 g P (setI w1 5 (eB g + 1) (nI (cj + 1))) (mA ρ2) r s := hB2.pr1 hr hP (hF2.1 6 r (by omega))
      refine part_of (k := k) (o2 := o + 1) (tr := tr) (l2 := true) (cc2 := cc) H (by omega) hr hB2 hP2 hi hie hN (by rw [wh_same hF2]; exact hW) ⟨by rw [eI _ (by decide) (by decide)]; exact m7, topR_push hF2 (by rw [e21]; decide) hA.2.1, by rw [eI _ (by decide) (by decide)]; exact m11, by rw [eI _ (by decide) (by decide)]; exact m12, e30, m13⟩ (Cau_push hF2 (by rw [e21]; decide) hC2 (by omega) m14.2.1 hCa) (by unfold Cap; omega) (by omega) ?_
      intro v w' _ hR
      obtain ⟨σ', c', nf', k', r1, r2, r3, r4, r5, r6, r7, r8, r9⟩ := hR
      have k21 : mA σ' 21 (o + 1) = 1 := by rw [r4.2.2.1 _ _ (by omega) (by omega) (by omega)]; exact e21
      have k22 : mA σ' 22 (o + 1) = nI (40 * r + i) := by rw [r4.2.2.1 _ _ (by omega) (by omega) (by omega)]; exact e22
      have k23 : mA σ' 23 (o + 1) = nI (a - (j + 1)) := by rw [r4.2.2.1 _ _ (by omega) (by omega) (by omega)]; exact e23
      have hFr : MFr σ σ' (o + 1) nf := hF2.thn r4 (by omega) m14.2.1
      have hP3 : PR1 g P w' (mA σ') r s := r2.pr1 hr hP (hFr.1 6 r (by omega))
      have hcc := r2.2.2.2.1.1
      have g6 : gN w' + nf = gN w + nf' := by rw [gN_setI] at r6; omega
      unfold Bnd at r5
      have hwy := Out_way r9
      refine ⟨fun hv => ?_, fun hv => ?_, fun hv hv1 => ?_⟩
      · subst hv
        have o0 : mI σ' 31 = 0 ∧ mI σ' 30 = nI (40 * r + e) ∧ gR w' 8 (eB g + 1) = none := by
          rcases r9 with q | q | q | q
          · exact q.2
          · exact absurd q.1 (by decide)
          · exact absurd q.1 (by decide)
          · exact absurd q.1 (by decide)
        have hG' : GoX g σ' r s e (o + 1) tr := GoX_of hr hP3 hes ⟨r7, topR_push hFr (by rw [k21]; decide) hA.2.1, r8, o0.1, o0.2.1, o0.2.2⟩ (h := h) (by omega)
        refine ⟨σ', σ', c', nf', kj + 1 + k', (m1.thn hMr).thn r1, fun σ'' hσ => MS_end hd2 hG' o0.1 (Or.inl (by rw [hFr.1 _ _ (by omega)]; exact h0)) (fun w1 hS1 Q kk => m_endRound (by omega) hS1 r7 (by omega) k21 (by rw [Nat.sub_sub]; exact hσ w1 hS1 (fun r w1 => r = none ∧ Q none w1) ⟨rfl, kk⟩)), r2, hC2.thn r3, hFr, g6, r7, k21, k22, k23, r8, o0.1, o0.2.2, by omega⟩
      · subst hv
        have o1 : gR w' 8 (eB g + 1) = none := by
          rcases r9 with q | q | q | q
          · exact absurd q.1 (by decide)
          · exact q.2.2.2
          · exact absurd q.1 (by decide)
          · exact absurd q.1 (by decide)
        have hMe : MS g d2 1 σ' (mLeaveL σ' (o + 1) (40 * r + e)) := MS_leave hd2 r7 (by omega) (by rw [hwy]; decide) (fun w1 hS1 Q kk => m_leaveLoop hS1 r7 (by omega) k21 hwy k22 hp160 (by rw [hFr.1 4 _ (by omega)]; exact he4) kk)
        refine ⟨⟨mLeaveL σ' (o + 1) (40 * r + e), c', nf', kj + 1 + k' + 1, ((m1.thn hMr).thn r1).thn hMe, Base_I 30 _ (Base_I 31 _ (Base_I 29 _ r2 (by omega)) (by omega)) (by omega), hC2.thn r3, ((hFr.I 29 _ (by omega)).I 31 _ (by omega)).I 30 _ (by omega), by unfold Bnd; omega, g6, ?_, ?_, Or.inl ⟨rfl, ?_, ?_, o1⟩⟩, fun q => absurd q (by omega)⟩
        · unfold mLeaveL; rw [mI_sI, if_neg (by decide), mI_sI, if_neg (by decide), mI_sI, if_pos rfl]
        · unfold mLeaveL; rw [mI_sI, if_neg (by decide), mI_sI, if_neg (by decide), mI_sI, if_neg (by decide)]; exact r8
        · unfold mLeaveL; rw [mI_sI, if_neg (by decide), mI_sI, if_pos rfl]
        · unfold mLeaveL; rw [mI_sI, if_pos rfl, hnx]; rfl
      · have hMe : MS g d2 1 σ' (sI σ' 29 (nI (o + 1))) := MS_leave hd2 r7 (by omega) (by rw [hwy]; exact hv) (fun w1 hS1 Q kk => m_leaveRound hS1 r7 (by omega) k21 (by rw [hwy]; exact hv1) kk)
        have hO : Out g w' σ' r e l nf' v := by
          rcases r9 with q | q | q | q
          · exact absurd q.1 hv
          · exact absurd q.1 hv1
          · exact Or.inr (Or.inr (Or.inl q))
          · exact Or.inr (Or.inr (Or.inr q))
        exact ⟨⟨sI σ' 29 (nI (o + 1)), c', nf', kj + 1 + k' + 1, ((m1.thn hMr).thn r1).thn hMe, Base_I 29 _ r2 (by omega), hC2.thn r3, hFr.I 29 _ (by omega), by unfold Bnd; omega, g6, by rw [mI_sI, if_pos rfl], by rw [mI_sI, if_neg (by decide)]; exact r8, Out_pop hv hO⟩, fun q => absurd q (by omega)⟩
  · intro w1 hI
    obtain ⟨σj, ρ, cj, nfj, kj, m1, m2, m3, m4, m5, m6, m7, m8, m9, m10, m11, m12, m13, m14⟩ := hI
    have hP1 : PR1 g P w1 (mA ρ) r s := m3.pr1 hr hP (m5.1 6 r (by omega))
    obtain ⟨z1, z2, z3, z4, z5, z6, z7⟩ := stepQ hP1 hi
    have hcj := m3.2.2.2.1.1
    rw [Nat.sub_self] at m10
    have hMr : MS g d2 1 σj (mRoundOut ρ (o + 1) (40 * r + e)) := m2 _ (fun w' hS' Q kk => m_roundOut hS' m7 (by omega) m10 m9 hp160 (by rw [m5.1 4 _ (by omega)]; exact he4) ⟨rfl, kk⟩)
    refine ⟨m3.1, z1, by rw [z3, m5.1 1 _ (by omega)]; exact ha, ⟨mRoundOut ρ (o + 1) (40 * r + e), cj, nfj, kj + 1, m1.thn hMr, Base_I 30 _ (Base_I 29 _ m3 (by omega)) (by omega), m4, (m5.I 29 _ (by omega)).I 30 _ (by omega), by unfold Bnd; omega, m6, ?_, ?_, Or.inl ⟨rfl, ?_, ?_, m13⟩⟩, fun q => absurd q (by omega)⟩
    · unfold mRoundOut; rw [mI_sI, if_neg (by decide), mI_sI, if_pos rfl]
    · unfold mRoundOut; rw [mI_sI, if_neg (by decide), mI_sI, if_neg (by decide)]; exact m11
    · unfold mRoundOut; rw [mI_sI, if_neg (by decide), mI_sI, if_neg (by decide)]; exact m12
    · unfold mRoundOut; rw [mI_sI, if_pos rfl, hnx]; rfl
end STEP5
