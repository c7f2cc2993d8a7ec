/-- the next of the model's rounds calls lastPart() -/
def PendL (g : GE) (d2 : Nat) (σj : MW) : Prop := ∀ σ' : MW, (∀ d' w', SK g w' → ∀ Q : Option Value → GW → Prop, Q none (put g σ' w') → gM g d' mX10_lastPart [.ref (eB g + 70)] (put g σj w') (fun r w1 => r = none ∧ Q none w1)) → MS g d2 1 σj σ'
/-- the first part, and a CATCH part, are done; p: the TRY -/
def TrR (g : GE) (P : PG) (d2 : Nat) (w : GW) (σ : MW) (r p o cl c nf h : Nat) (l : Bool) (v : Int32) (w2 : GW) : Prop :=
  ∃ (σj : MW) (cj nfj kj : Nat), MS g d2 kj σ σj ∧ PendL g d2 σj ∧ Base g P w2 σj cj nfj ∧ CFr g w w2 ∧ MFr σ σj (o + 1) nf ∧ gN w2 + nf = gN w + nfj ∧ mI σj 29 = nI (o + 1 + 1) ∧ mA σj 22 (o + 1) = nI p ∧ mI σj 33 = nI cl ∧ (∃ t, Out g w2 σj r t l nfj v) ∧ (c + 1 ≤ cj ∧ nf ≤ nfj ∧ kj + 2 + 4 * c + 4 * nf ≤ 4 * cj + 4 * nfj ∧ (cj < 200 → nfj + c ≤ nf + cj) ∧ nfj + c ≤ nf + cj + 3 * h + 2)
section STEP6
variable {g : GE} {P : PG} {d d2 r s i o tr cl c nf h t n : Nat} {l cc : Bool} {w : GW} {σ : MW} {cau : Option Nat}
/-- behind a part of the TRY (kind k of its frame: 3 or 4) -/
theorem pend_of {w' : GW} {σ' : MW} {q nf' : Nat} {v : Int32} (hd2 : 12 ≤ d2) (hk : mA σ' 21 (o + 1) = 3 ∧ ¬ v = 3 ∨ mA σ' 21 (o + 1) = 4) (hG : mI σ' 30 = nI (40 * r + q) → GoX g σ' r s q (o + 1) tr) (h29 : mI σ' 29 = nI (o + 1 + 1)) (ho : o < 50) (hp : isPrt (mA σ' 0 (40 * r + q))) (hO : Out g w' σ' r q l nf' v) : PendL g d2 σ' := by
  intro σ'' hσ
  have hwy := Out_way hO
  by_cases hv : v = 0
  · have o0 : mI σ' 31 = 0 ∧ mI σ' 30 = nI (40 * r + q) := by
      rcases hO with z | z | z | z
      · exact ⟨z.2.1, z.2.2.1⟩
      · exact absurd (z.1.symm.trans hv) (by decide)
      · exact absurd (z.1.symm.trans hv) (by decide)
      · exact absurd (z.1.symm.trans hv) (by decide)
    refine MS_end hd2 (hG o0.2) o0.1 hp (fun w1 hS1 Q kk => ?_)
    rcases hk with z | z
    · exact m_endTry3 (by omega) hS1 h29 (by omega) z.1 (hσ _ w1 hS1 (fun r w1 => r = none ∧ Q none w1) ⟨rfl, kk⟩)
    · exact m_endTry4 (by omega) hS1 h29 (by omega) z (hσ _ w1 hS1 (fun r w1 => r = none ∧ Q none w1) ⟨rfl, kk⟩)
  · refine MS_leave hd2 h29 (by omega) (by rw [hwy]; exact hv) (fun w1 hS1 Q kk => ?_)
    rcases hk with z | z
    · exact m_leaveTry (by omega) hS1 h29 (by omega) z.1 (by rw [hwy]; exact z.2) (hσ _ w1 hS1 Q kk)
    · exact m_leaveCatch (by omega) hS1 h29 (by omega) z (hσ _ w1 hS1 Q kk)
set_option maxHeartbeats 2000000 in
theorem sim_try (H : Sim g P d2 n cl h) (hd : 5 * (h + 1) + 9 ≤ d) (hd2 : 12 ≤ d2) (hr : r < 4) (hB : Base g P w σ c nf) (hc : c < 200) (hP : PR1 g P w (mA σ) r s) (hi : i < s) (hA : At g w σ r i o tr cl) (hCa : Cau g w σ o nf cau cc) (hcap : Cap c nf (h + 1)) (ho : o + (h + 1) ≤ 50) (hw : mA σ 0 (40 * r + i) = 1) {e k : Nat} (he : pE P r i = e) (hie : i < e) (hWP : WP (fun i => mA σ 0 (40 * r + i)) (pN P r) (fun x y z => WS (fun i => mA σ 0 (40 * r + i)) (pN P r) (pE P r) k n l x y z) cc 3 i e) : gMI g d mX0_doStep [.ref (eB g + 1), .ref (aRt g r), .ref (pQ P r i), va_rf cau, .int (nI cl)] w (SRes g P d2 w σ r (nxt P r i) l o cl c nf (h + 1)) := by
  obtain ⟨q1, q2, q3, q4, q5, q6, q7⟩ := stepQ hP hi
  have hG := GoX_of hr hP hi hA ho
  obtain ⟨hes, he4, hnx⟩ := stepE hP hi he hie
  have hB1 := Base_count hB hc
  have hp160 := hG.2.2.2.2.2.2.1
  unfold Cap at hcap
  have hC1 : CFr g w (setI w 5 (eB g + 1) (nI (c + 1))) := CFr_setI 5 _ _ (by omega)
  obtain ⟨p1, hip1, hNp, hW1, hprt⟩ := WP_end hWP
  have hW1' : WS (fun i => mA σ 0 (40 * r + i)) (pN P r) (pE P r) k n l (i + 1) p1 cc := by
    have ed : decide ((fun i => mA σ 0 (40 * r + i)) i = 2) = false := decide_eq_false (by show ¬ mA σ 0 (40 * r + i) = 2; rw [hw]; decide)
    rw [ed, Bool.or_false] at hW1
    exact hW1
  have hp1s : p1 < s := (hP.2.2.2.2.2.1 i p1 hi hNp).1
  have hM0 : MS g d2 1 σ (mTry (sI σ 34 (nI (c + 1))) (o + 1) (40 * r + i)) := MS_order hd2 hG hA.2.2.2.1 (nPrt hw (by decide)) (by rw [hw]; decide) hB.2.2.2.1.2.2.1 hc (fun w' hS' Q k => m_ordTry (by omega) hS' hp160 hw (by rw [mI_sI, if_neg (by decide)]; exact hA.2.2.2.2.1) (by rw [mI_sI, if_neg (by decide)]; exact hA.1) (by omega) ⟨rfl, k⟩)
  obtain ⟨f1, f2, f3, f4, f5⟩ := mPush_at (sI σ 34 (nI (c + 1))) (o + 1) 3 (nI (40 * r + i)) 0
  have hF : MFr σ (mTry (sI σ 34 (nI (c + 1))) (o + 1) (40 * r + i)) (o + 1) nf := ((MFr_sI (f := 34) (by omega)).thn (MFr_push (nf := nf) (Nat.le_refl (o + 1))) (Nat.le_refl _) (Nat.le_refl _)).I 30 _ (by omega)
  have hB2 : Base g P (setI w 5 (eB g + 1) (nI (c + 1))) (mTry (sI σ 34 (nI (c + 1))) (o + 1) (40 * r + i)) (c + 1) nf := Base_I 30 _ (Base_push hB1) (by omega)
  have e29 : mI (mTry (sI σ 34 (nI (c + 1))) (o + 1) (40 * r + i)) 29 = nI (o + 1 + 1) := by unfold mTry; rw [mI_sI, if_neg (by decide), mI_push, if_pos rfl]
  have eI : ∀ f, f ≠ 29 → f ≠ 30 → f ≠ 34 → mI (mTry (sI σ 34 (nI (c + 1))) (o + 1) (40 * r + i)) f = mI σ f := fun f f1 f2 f3 => by unfold mTry; rw [mI_sI, if_neg f2, mI_push, if_neg f1, mI_sI, if_neg f3]
  have e30 : mI (mTry (sI σ 34 (nI (c + 1))) (o + 1) (40 * r + i)) 30 = nI (40 * r + (i + 1)) := by unfold mTry; rw [mI_sI, if_pos rfl]; rfl
  have e21 : mA (mTry (sI σ 34 (nI (c + 1))) (o + 1) (40 * r + i)) 21 (o + 1) = 3 := f1
  have e22 : mA (mTry (sI σ 34 (nI (c + 1))) (o + 1) (40 * r + i)) 22 (o + 1) = nI (40 * r + i) := f2
  generalize mTry (sI σ 34 (nI (c + 1))) (o + 1) (40 * r + i) = σ2 at *
  have hP2 : PR1 g P (setI w 5 (eB g + 1) (nI (c + 1))) (mA σ2) r s := hB2.pr1 hr hP (hF.1 6 r (by omega))
  -- what every world of the run holds of the TRY
  have hst : ∀ (w3 : GW) (σ3 : MW) (c3 nf3 : Nat), Base g P w3 σ3 c3 nf3 → MFr σ σ3 (o + 1) nf → PR1 g P w3 (mA σ3) r s ∧ gOb g w3 (pQ P r i) 7 ∧ gR w3 455 (pQ P r i) = some (pQ P r p1) := fun w3 σ3 c3 nf3 b1 b2 => by
    have hP3 : PR1 g P w3 (mA σ3) r s := b1.pr1 hr hP (b2.1 6 r (by omega))
    obtain ⟨a1, a2, a3, a4, a5, a6, a7, a8, a9, a10, a11⟩ := hP3.2.2.2.2.1 i hi
    exact ⟨hP3, a2, by rw [a10, hNp]; rfl⟩
  refine c_stepTry (by omega) hB.1 q1 hB.2.2.2.1.2.1 hc (by rw [q2]; exact hw) (c_doTry (p := pQ P r p1) (by omega) (TrR g P d2 w σ r (40 * r + i) o cl c nf h l) ?hR hB1.1 q1 hB.2.2.2.2.2.1 hB.2.2.2.2.2.2 (Res g P d2 (setI w 5 (eB g + 1) (nI (c + 1))) σ2 r p1 l (o + 1) cl (c + 1) nf (3 * h + 1)) ?h1 ?hS1 ?hno ?hth)
  case h1 =>
    exact part_of (k := k) (o2 := o + 1) (tr := tr) (l2 := l) (cc2 := cc) H (by omega) hr hB2 hP2 hi hip1 hNp (by rw [wh_same hF]; exact hW1') ⟨e29, topR_push hF (by rw [e21]; decide) hA.2.1, by rw [eI _ (by decide) (by decide) (by decide)]; exact hA.2.2.1, by rw [eI _ (by decide) (by decide) (by decide)]; exact hA.2.2.2.1, e30, hA.2.2.2.2.2⟩ (Cau_push hF (by rw [e21]; decide) hC1 (by omega) (Nat.le_refl nf) hCa) (by unfold Cap; omega) (by omega) (fun _ _ _ z => z)
  case hS1 =>
    intro v w1 hR
    obtain ⟨σ', c', nf', k', r1, r2, r3, r4, r5, r6, r7, r8, r9⟩ := hR
    have z := hst w1 σ' c' nf' r2 (hF.thn r4 (by omega) (Nat.le_refl nf))
    exact ⟨r2.1, z.2⟩
  case hno =>
    intro v w1 hR hnone
    obtain ⟨σ', c', nf', k', r1, r2, r3, r4, r5, r6, r7, r8, r9⟩ := hR
    have hFr : MFr σ σ' (o + 1) nf := hF.thn r4 (by omega) (Nat.le_refl nf)
    have hP3 := (hst w1 σ' c' nf' r2 hFr).1
    have k21 : mA σ' 21 (o + 1) = 3 := by rw [r4.2.2.1 _ _ (by omega) (by omega) (by omega)]; exact e21
    have k22 : mA σ' 22 (o + 1) = nI (40 * r + i) := by rw [r4.2.2.1 _ _ (by omega) (by omega) (by omega)]; exact e22
    have hcc := r2.2.2.2.1.1
    have hv3 : ¬ v = 3 := by
      rcases r9 with q | q | q | q
      · rw [q.1]; decide
      · rw [q.1]; decide
      · rw [q.1]; decide
      · obtain ⟨-, -, f, φ, z, -⟩ := q
        rw [hnone] at z; cases z
    unfold Bnd at r5
    exact ⟨σ', c', nf', 1 + k', hM0.thn r1, pend_of hd2 (Or.inl ⟨k21, hv3⟩) (fun h30 => ⟨r7, by omega, topR_push hFr (by rw [k21]; decide) hA.2.1, hP3.2.2.1, hP3.1, h30, by have := hP3.1; omega, by omega⟩) r7 (by omega) (by rw [hFr.1 0 _ (by omega)]; exact hprt) r9, r2, hC1.thn r3, hFr, r6, r7, k22, r8, ⟨p1, r9⟩, by omega⟩
  case hth =>
    intro v w1 f hR hsome
    obtain ⟨σ', c', nf', k', r1, r2, r3, r4, r5, r6, r7, r8, r9⟩ := hR
    have hFr : MFr σ σ' (o + 1) nf := hF.thn r4 (by omega) (Nat.le_refl nf)
    have hP3 := (hst w1 σ' c' nf' r2 hFr).1
    have k21 : mA σ' 21 (o + 1) = 3 := by rw [r4.2.2.1 _ _ (by omega) (by omega) (by omega)]; exact e21
    have k22 : mA σ' 22 (o + 1) = nI (40 * r + i) := by rw [r4.2.2.1 _ _ (by omega) (by omega) (by omega)]; exact e22
    have hcc := r2.2.2.2.1.1
    have h3 : v = 3 ∧ mI σ' 31 = 3 ∧ ∃ φ : Nat, mI σ' 32 = nI φ ∧ FR g w1 (mA σ') nf' f φ := by
      rcases r9 with q | q | q | q
      · rw [hsome] at q; exact absurd q.2.2.2 (by intro z; cases z)
      · rw [hsome] at q; exact absurd q.2.2.2 (by intro z; cases z)
      · rw [hsome] at q; exact absurd q.2.2 (by intro z; cases z)
      · obtain ⟨z1, z2, f', φ, z3, z4, z5⟩ := q
        rw [hsome] at z3
        cases z3
        exact ⟨z1, z2, φ, z4, z5⟩
    obtain ⟨rfl, hw3, φ, h32, hFR⟩ := h3
    obtain ⟨fo, kd, m0, b1, b2, b3, b4, b5, b6, b7, b8, b9, bch, b10, b11⟩ := id hFR
    have hφ : φ < nf' := bch.1
    have hbd := r5
    unfold Bnd at hbd
    have hn600 : nf' ≤ 600 := by omega
    have hWP3 : WP (fun i => mA σ' 0 (40 * r + i)) (pN P r) (fun x y z => WS (fun i => mA σ 0 (40 * r + i)) (pN P r) (pE P r) k n l x y z) cc 3 i e := by rw [wh_same hFr]; exact hWP
    obtain ⟨p1', hNp', m, n', q, res, c1, c2, c3, c4, c5⟩ := catch_chain (kd := kd) hr hP3 hi hWP3
    rw [hNp] at hNp'
    cases hNp'
    refine ⟨kd, n', res, b2, fo, b4, c3, fun hres => ?_, fun qc hqc => ?_⟩
    · have hq2 : ¬ mA σ' 0 (40 * r + q) = 2 := by
        rcases c5 with z | z
        · exact z.2
        · rw [hres] at z; exact absurd z.1 (by intro y; cases y)
      have h5 : mA σ' 5 (40 * r + i) = nI (40 * r + p1) := (hP3.2.2.2.2.2.1 i p1 hi hNp).2
      refine ⟨σ', c', nf', 1 + k', hM0.thn r1, fun σ'' hσ => ?_, r2, hC1.thn r3, hFr, r6, r7, k22, r8, ⟨p1, r9⟩, by omega⟩
      exact MS_leave hd2 r7 (by omega) (by rw [hw3]; decide) (fun w1 hS1 Q kk => m_leaveSeek (by omega) hS1 r7 (by omega) k21 hw3 (m_seekOff (by omega) hS1 r7 (by omega) k22 hp160 h5 (fun j hj => r2.2.2.2.2.1 j hj) h32 (by omega) b5 b2 c1 c2 hq2 (hσ _ w1 hS1 (fun r w1 => r = none ∧ Q none w1) ⟨rfl, kk⟩)))
    · rcases c5 with z | ⟨z1, z2, q2', z3, z4, z5, z6⟩
      · rw [z.1] at hqc; cases hqc
      · rw [hqc] at z1
        cases z1
        have h5 : mA σ' 5 (40 * r + i) = nI (40 * r + p1) := (hP3.2.2.2.2.2.1 i p1 hi hNp).2
        have hMc : MS g d2 1 σ' (mSeekOn σ' (o + 1) (40 * r + q)) := MS_leave hd2 r7 (by omega) (by rw [hw3]; decide) (fun w1 hS1 Q kk => m_leaveSeek (by omega) hS1 r7 (by omega) k21 hw3 (m_seekOn (by omega) hS1 r7 (by omega) k22 hp160 h5 (fun j hj => r2.2.2.2.2.1 j hj) h32 (by omega) b5 b2 c1 c2 z2 ⟨rfl, kk⟩))
        have hC3 : CFr g w1 (setI (setR w1 8 (eB g + 1) none) 6 (eB g + 1) (gI w1 6 (eB g + 1) + 1)) := (CFr_setR _ _).thn (CFr_setI 6 _ _ (by omega))
        have hBa : Base g P (setR w1 8 (eB g + 1) none) (sA (sA σ' 21 (o + 1) 4) 24 (o + 1) (mI σ' 32)) c' nf' := Base_A 24 _ _ (Base_A 21 _ _ (Base_R none r2) (by omega)) (by omega)
        have hB3 : Base g P (setI (setR w1 8 (eB g + 1) none) 6 (eB g + 1) (gI w1 6 (eB g + 1) + 1)) (mSeekOn σ' (o + 1) (40 * r + q)) c' nf' := Base_I 31 _ (Base_I 30 _ (Base_cau hBa) (by omega)) (by omega)
        have hF3 : MFr σ' (mSeekOn σ' (o + 1) (40 * r + q)) (o + 1) nf' := (((((MFr_refl σ' (o + 1) nf').A 21 (o + 1) _ (by omega)).A 24 (o + 1) _ (by omega)).I 35 _ (by omega)).I 30 _ (by omega)).I 31 _ (by omega)
        have s29 : mI (mSeekOn σ' (o + 1) (40 * r + q)) 29 = nI (o + 1 + 1) := by unfold mSeekOn; rw [mI_sI, if_neg (by decide), mI_sI, if_neg (by decide), mI_sI, if_neg (by decide), mI_sA, mI_sA]; exact r7
        have s33 : mI (mSeekOn σ' (o + 1) (40 * r + q)) 33 = nI cl := by unfold mSeekOn; rw [mI_sI, if_neg (by decide), mI_sI, if_neg (by decide), mI_sI, if_neg (by decide), mI_sA, mI_sA]; exact r8
        have s31 : mI (mSeekOn σ' (o + 1) (40 * r + q)) 31 = 0 := by unfold mSeekOn; rw [mI_sI, if_pos rfl]
        have s30 : mI (mSeekOn σ' (o + 1) (40 * r + q)) 30 = nI (40 * r + (q + 1)) := by unfold mSeekOn; rw [mI_sI, if_neg (by decide), mI_sI, if_pos rfl]; rfl
        have s21 : mA (mSeekOn σ' (o + 1) (40 * r + q)) 21 (o + 1) = 4 := by unfold mSeekOn; rw [mA_sI, mA_sI, mA_sI, mA_sA, if_neg (by omega), mA_sA, if_pos ⟨rfl, rfl⟩]
        have s24 : mA (mSeekOn σ' (o + 1) (40 * r + q)) 24 (o + 1) = nI φ := by unfold mSeekOn; rw [mA_sI, mA_sI, mA_sI, mA_sA, if_pos ⟨rfl, rfl⟩]; exact h32
        have s22 : mA (mSeekOn σ' (o + 1) (40 * r + q)) 22 (o + 1) = nI (40 * r + i) := by unfold mSeekOn; rw [mA_sI, mA_sI, mA_sI, mA_sA, if_neg (by omega), mA_sA, if_neg (by omega)]; exact k22
        generalize mSeekOn σ' (o + 1) (40 * r + q) = σ3 at *
        have hFr3 : MFr σ σ3 (o + 1) nf := hFr.thn hF3 (Nat.le_refl _) (by omega)
        have hP4 := (hst _ σ3 c' nf' hB3 hFr3).1
        have hT3 : topR σ3 (o + 1 + 1) tr r := topR_push hFr3 (by rw [s21]; decide) hA.2.1
        have hCau3 : Cau g (setI (setR w1 8 (eB g + 1) none) 6 (eB g + 1) (gI w1 6 (eB g + 1) + 1)) σ3 (o + 1) nf' (some f) true := fun _ => ⟨f, φ, o + 1, rfl, FR_same hn600 (Nat.le_refl _) hF3.2.2.2.1 hC3 hFR, ⟨by omega, s21, fun j y1 y2 => absurd y1 (by omega)⟩, s24⟩
        have hpt := part_of (Q := TrR g P d2 w σ r (40 * r + i) o cl c nf h l) (k := k) (o2 := o + 1) (tr := tr) (l2 := l) (cc2 := true) (d := d - 1 - 1) H (by omega) hr hB3 hP4 c4 z3 z4 (by rw [wh_same hFr3]; exact z5) ⟨s29, hT3, s33, s31, s30, by rw [gR_setI, gR_setR, up2_at]⟩ hCau3 (by unfold Cap; omega) (by omega) ?_
        · exact hpt
        · intro v4 w4 _ hR4
          obtain ⟨σ4, c4', nf4, k4, t1, t2, t3, t4, t5, t6, t7, t8, t9⟩ := hR4
          have hFr4 : MFr σ σ4 (o + 1) nf := hFr3.thn t4 (by omega) (by omega)
          have hP5 := (hst w4 σ4 c4' nf4 t2 hFr4).1
          have j21 : mA σ4 21 (o + 1) = 4 := by rw [t4.2.2.1 _ _ (by omega) (by omega) (by omega)]; exact s21
          have j22 : mA σ4 22 (o + 1) = nI (40 * r + i) := by rw [t4.2.2.1 _ _ (by omega) (by omega) (by omega)]; exact s22
          have hcc4 := t2.2.2.2.1.1
          have hq2s : q2' < s := (hP3.2.2.2.2.2.1 q q2' c4 z4).1
          unfold Bnd at t5
          have g6 : gN w4 + nf = gN w + nf4 := by
            have y1 : gN (setI (setR w1 8 (eB g + 1) none) 6 (eB g + 1) (gI w1 6 (eB g + 1) + 1)) = gN w1 := rfl
            have y2 : gN (setI w 5 (eB g + 1) (nI (c + 1))) = gN w := rfl
            omega
          exact ⟨σ4, c4', nf4, 1 + k' + 1 + k4, ((hM0.thn r1).thn hMc).thn t1, pend_of hd2 (Or.inr j21) (fun h30 => ⟨t7, by omega, topR_push hFr4 (by rw [j21]; decide) hA.2.1, hP5.2.2.1, hP5.1, h30, by have := hP5.1; omega, by omega⟩) t7 (by omega) (by rw [hFr4.1 0 _ (by omega), ← hFr.1 0 _ (by omega)]; exact z6) t9, t2, ((hC1.thn r3).thn hC3).thn t3, hFr4, g6, t7, j22, t8, ⟨q2', t9⟩, by omega⟩
  case hR =>
    intro v w2 hR
    obtain ⟨σj, cj, nfj, kj, m1, m2, m3, m4, m5, m6, m7, m8, m9, ⟨t0, m10⟩, m11⟩ := hR
    obtain ⟨hP3, ho3, hn3⟩ := hst w2 σj cj nfj m3 m5
    have hcj := m3.2.2.2.1.1
    have hwy := Out_way m10
    have hWP3 : WP (fun i => mA σj 0 (40 * r + i)) (pN P r) (fun x y z => WS (fun i => mA σ 0 (40 * r + i)) (pN P r) (pE P r) k n l x y z) cc 3 i e := by rw [wh_same m5]; exact hWP
    obtain ⟨p1', hNp', m, n', qf, res, c1, c2, c3, c4, c5⟩ := fin_chain hr hP3 hi (Or.inl (by rw [m5.1 0 _ (by omega)]; exact hw)) hWP3
    rw [hNp] at hNp'
    cases hNp'
    have h4j : mA σj 4 (40 * r + i) = nI (40 * r + e) := by rw [m5.1 4 _ (by omega)]; exact he4
    refine ⟨m3.1, ho3, hn3, n', res, c3, fun hres => ?_, fun qc hqc => ?_⟩
    · have hq0 : mA σj 0 (40 * r + qf) = 0 := by
        rcases c5 with z | z
        · exact z.2.2
        · rw [hres] at z; exact absurd z.1 (by intro y; cases y)
      by_cases hv : v = 0
      · subst hv
        have o0 : gR w2 8 (eB g + 1) = none := by
          rcases m10 with z | z | z | z
          · exact z.2.2.2
          · exact absurd z.1 (by decide)
          · exact absurd z.1 (by decide)
          · exact absurd z.1 (by decide)
        have hMe : MS g d2 1 σj (mLastOff σj (o + 1) (nI (40 * r + e + 1))) := m2 _ (fun d' w' hS' Q kk => m_lastOff hS' m7 (by omega) m8 c1 c2 hq0 hwy h4j ⟨rfl, kk⟩)
        refine ⟨⟨mLastOff σj (o + 1) (nI (40 * r + e + 1)), cj, nfj, kj + 1, m1.thn hMe, Base_I 29 _ (Base_I 30 _ m3 (by omega)) (by omega), m4, (m5.I 30 _ (by omega)).I 29 _ (by omega), by unfold Bnd; omega, m6, ?_, ?_, Or.inl ⟨rfl, ?_, ?_, o0⟩⟩, fun q => absurd q (by omega)⟩
        · unfold mLastOff; rw [mI_sI, if_pos rfl]
        · unfold mLastOff; rw [mI_sI, if_neg (by decide), mI_sI, if_neg (by decide)]; exact m9
        · unfold mLastOff; rw [mI_sI, if_neg (by decide), mI_sI, if_neg (by decide)]; exact hwy
        · unfold mLastOff; rw [mI_sI, if_neg (by decide), mI_sI, if_pos rfl, hnx]; rfl
      · have hMe : MS g d2 1 σj (mLastOff σj (o + 1) (mI σj 30)) := m2 _ (fun d' w' hS' Q kk => m_lastWay hS' m7 (by omega) m8 c1 c2 hq0 (by rw [hwy]; exact hv) ⟨rfl, kk⟩)
        have hO : Out g w2 (sI σj 30 (mI σj 30)) r t0 l nfj v := by
          rcases m10 with z | z | z | z
          · exact absurd z.1 hv
          · exact Or.inr (Or.inl ⟨z.1, by rw [mI_sI, if_neg (by decide)]; exact z.2.1, z.2.2⟩)
          · exact Or.inr (Or.inr (Or.inl ⟨z.1, by rw [mI_sI, if_neg (by decide)]; exact z.2.1, z.2.2⟩))
          · obtain ⟨y1, y2, f, φ, y3, y4, y5⟩ := z
            exact Or.inr (Or.inr (Or.inr ⟨y1, by rw [mI_sI, if_neg (by decide)]; exact y2, f, φ, y3, by rw [mI_sI, if_neg (by decide)]; exact y4, y5⟩))
        exact ⟨⟨mLastOff σj (o + 1) (mI σj 30), cj, nfj, kj + 1, m1.thn hMe, Base_I 29 _ (Base_I 30 _ m3 (by omega)) (by omega), m4, (m5.I 30 _ (by omega)).I 29 _ (by omega), by unfold Bnd; omega, m6, by unfold mLastOff; rw [mI_sI, if_pos rfl], by unfold mLastOff; rw [mI_sI, if_neg (by decide), mI_sI, if_neg (by decide)]; exact m9, Out_pop hv hO⟩, fun q => absurd q (by omega)⟩
    · rcases c5 with z | ⟨z1, z2, z3, z4, z5, z6⟩
      · rw [z.1] at hqc; cases hqc
      · rw [hqc] at z1
        cases z1
        have hMl : MS g d2 1 σj (mLastOn σj (o + 1) (40 * r + qf)) := m2 _ (fun d' w' hS' Q kk => m_lastOn hS' m7 (by omega) m8 c1 c2 z2 ⟨rfl, kk⟩)
        have hC5 : CFr g w2 (setI (setR w2 8 (eB g + 1) none) 7 (eB g + 1) (gI w2 7 (eB g + 1) + 1)) := (CFr_setR _ _).thn (CFr_setI 7 _ _ (by omega))
        have hBa : Base g P (setR w2 8 (eB g + 1) none) (sA (sA (sA σj 21 (o + 1) 5) 25 (o + 1) (mI σj 31)) 24 (o + 1) (mI σj 32)) cj nfj := Base_A 24 _ _ (Base_A 25 _ _ (Base_A 21 _ _ (Base_R none m3) (by omega)) (by omega)) (by omega)
        have hB5 : Base g P (setI (setR w2 8 (eB g + 1) none) 7 (eB g + 1) (gI w2 7 (eB g + 1) + 1)) (mLastOn σj (o + 1) (40 * r + qf)) cj nfj := Base_I 31 _ (Base_I 30 _ (Base_fin hBa) (by omega)) (by omega)
        have hF5 : MFr σj (mLastOn σj (o + 1) (40 * r + qf)) (o + 1) nfj := ((((((MFr_refl σj (o + 1) nfj).A 21 (o + 1) _ (by omega)).A 25 (o + 1) _ (by omega)).A 24 (o + 1) _ (by omega)).I 36 _ (by omega)).I 30 _ (by omega)).I 31 _ (by omega)
        have s29 : mI (mLastOn σj (o + 1) (40 * r + qf)) 29 = nI (o + 1 + 1) := by unfold mLastOn; rw [mI_sI, if_neg (by decide), mI_sI, if_neg (by decide), mI_sI, if_neg (by decide), mI_sA, mI_sA, mI_sA]; exact m7
        have s33 : mI (mLastOn σj (o + 1) (40 * r + qf)) 33 = nI cl := by unfold mLastOn; rw [mI_sI, if_neg (by decide), mI_sI, if_neg (by decide), mI_sI, if_neg (by decide), mI_sA, mI_sA, mI_sA]; exact m9
        have s31 : mI (mLastOn σj (o + 1) (40 * r + qf)) 31 = 0 := by unfold mLastOn; rw [mI_sI, if_pos rfl]
        have s30 : mI (mLastOn σj (o + 1) (40 * r + qf)) 30 = nI (40 * r + (qf + 1)) := by unfold mLastOn; rw [mI_sI, if_neg (by decide), mI_sI, if_pos rfl]; rfl
        have s21 : mA (mLastOn σj (o + 1) (40 * r + qf)) 21 (o + 1) = 5 := by unfold mLastOn; rw [mA_sI, mA_sI, mA_sI, mA_sA, if_neg (by omega), mA_sA, if_neg (by omega), mA_sA, if_pos ⟨rfl, rfl⟩]
        have s25 : mA (mLastOn σj (o + 1) (40 * r + qf)) 25 (o + 1) = v := by unfold mLastOn; rw [mA_sI, mA_sI, mA_sI, mA_sA, if_neg (by omega), mA_sA, if_pos ⟨rfl, rfl⟩]; exact hwy
        have s24 : mA (mLastOn σj (o + 1) (40 * r + qf)) 24 (o + 1) = mI σj 32 := by unfold mLastOn; rw [mA_sI, mA_sI, mA_sI, mA_sA, if_pos ⟨rfl, rfl⟩]
        have s22 : mA (mLastOn σj (o + 1) (40 * r + qf)) 22 (o + 1) = nI (40 * r + i) := by unfold mLastOn; rw [mA_sI, mA_sI, mA_sI, mA_sA, if_neg (by omega), mA_sA, if_neg (by omega), mA_sA, if_neg (by omega)]; exact m8
        generalize mLastOn σj (o + 1) (40 * r + qf) = σ5 at *
        have hFr5 : MFr σ σ5 (o + 1) nf := m5.thn hF5 (Nat.le_refl _) m11.2.1
        have hP5 := (hst _ σ5 cj nfj hB5 hFr5).1
        have hpt := part_of (Q := Res g P d2 (setI (setR w2 8 (eB g + 1) none) 7 (eB g + 1) (gI w2 7 (eB g + 1) + 1)) σ5 r e l (o + 1) cl cj nfj (3 * h + 1)) (k := k) (o2 := o + 1) (tr := tr) (l2 := l) (cc2 := cc) (cau2 := cau) (d := d - 1 - 1 - 1) H (by omega) hr hB5 hP5 c4 z3 z4 (by rw [wh_same hFr5]; exact z6) ⟨s29, topR_push hFr5 (by rw [s21]; decide) hA.2.1, s33, s31, s30, by rw [gR_setI, gR_setR, up2_at]⟩ (Cau_push hFr5 (by rw [s21]; decide) (m4.thn hC5) (by omega) m11.2.1 hCa) (by unfold Cap; omega) (by omega) (fun _ _ _ y => y)
        refine c_doFinally (by omega) m3.1 rfl _ hpt (fun v w1 y => ?_) (fun v6 w6 hR6 hv6 => ?_) (fun w6 hR6 => ?_)
        · obtain ⟨_, _, _, _, _, y2, _⟩ := y
          exact y2.1
        · obtain ⟨σ6, c6, nf6, k6, t1, t2, t3, t4, t5, t6, t7, t8, t9⟩ := hR6
          have hFr6 : MFr σ σ6 (o + 1) nf := hFr5.thn t4 (by omega) m11.2.1
          have j21 : mA σ6 21 (o + 1) = 5 := by rw [t4.2.2.1 _ _ (by omega) (by omega) (by omega)]; exact s21
          have hcc6 := t2.2.2.2.1.1
          unfold Bnd at t5
          have hwy6 := Out_way t9
          have g6 : gN w6 + nf = gN w + nf6 := by
            have y1 : gN (setI (setR w2 8 (eB g + 1) none) 7 (eB g + 1) (gI w2 7 (eB g + 1) + 1)) = gN w2 := rfl
            omega
          have hMe : MS g d2 1 σ6 (sI σ6 29 (nI (o + 1))) := MS_leave hd2 t7 (by omega) (by rw [hwy6]; exact hv6) (fun w1 hS1 Q kk => m_leaveLast hS1 t7 (by omega) j21 kk)
          exact ⟨⟨sI σ6 29 (nI (o + 1)), c6, nf6, kj + 1 + k6 + 1, ((m1.thn hMl).thn t1).thn hMe, Base_I 29 _ t2 (by omega), (m4.thn hC5).thn t3, hFr6.I 29 _ (by omega), by unfold Bnd; omega, g6, by rw [mI_sI, if_pos rfl], by rw [mI_sI, if_neg (by decide)]; exact t8, Out_pop hv6 t9⟩, fun q => absurd q (by omega)⟩
        · obtain ⟨σ6, c6, nf6, k6, t1, t2, t3, t4, t5, t6, t7, t8, t9⟩ := hR6
          have hFr6 : MFr σ σ6 (o + 1) nf := hFr5.thn t4 (by omega) m11.2.1
          have j21 : mA σ6 21 (o + 1) = 5 := by rw [t4.2.2.1 _ _ (by omega) (by omega) (by omega)]; exact s21
          have j22 : mA σ6 22 (o + 1) = nI (40 * r + i) := by rw [t4.2.2.1 _ _ (by omega) (by omega) (by omega)]; exact s22
          have j25 : mA σ6 25 (o + 1) = v := by rw [t4.2.2.1 _ _ (by omega) (by omega) (by omega)]; exact s25
          have j24 : mA σ6 24 (o + 1) = mI σj 32 := by rw [t4.2.2.1 _ _ (by omega) (by omega) (by omega)]; exact s24
          have hcc6 := t2.2.2.2.1.1
          have hP6 := (hst w6 σ6 c6 nf6 t2 hFr6).1
          have o0 : mI σ6 31 = 0 ∧ mI σ6 30 = nI (40 * r + e) := by
            rcases t9 with y | y | y | y
            · exact ⟨y.2.1, y.2.2.1⟩
            · exact absurd y.1 (by decide)
            · exact absurd y.1 (by decide)
            · exact absurd y.1 (by decide)
          have hG6 : GoX g σ6 r s e (o + 1) tr := ⟨t7, by omega, topR_push hFr6 (by rw [j21]; decide) hA.2.1, hP6.2.2.1, hP6.1, o0.2, by have := hP6.1; omega, by omega⟩
          have hMe : MS g d2 1 σ6 (mEndLast σ6 (o + 1) (40 * r + e)) := MS_end hd2 hG6 o0.1 (Or.inl (by rw [hFr6.1 0 _ (by omega), ← m5.1 0 _ (by omega)]; exact z5)) (fun w1 hS1 Q kk => m_endLast hS1 t7 (by omega) j21 j22 hp160 (by rw [hFr6.1 4 _ (by omega)]; exact he4) ⟨rfl, kk⟩)
          unfold Bnd at t5
          have g6 : gN (setR w6 8 (eB g + 1) (gR w2 8 (eB g + 1))) + nf = gN w + nf6 := by
            have y1 : gN (setI (setR w2 8 (eB g + 1) none) 7 (eB g + 1) (gI w2 7 (eB g + 1) + 1)) = gN w2 := rfl
            have y2 : gN (setR w6 8 (eB g + 1) (gR w2 8 (eB g + 1))) = gN w6 := rfl
            omega
          have x31 : mI (mEndLast σ6 (o + 1) (40 * r + e)) 31 = v := by unfold mEndLast; rw [mI_sI, if_neg (by decide), mI_sI, if_neg (by decide), mI_sI, if_neg (by decide), mI_sI, if_pos rfl]; exact j25
          have x32 : mI (mEndLast σ6 (o + 1) (40 * r + e)) 32 = mI σj 32 := by unfold mEndLast; rw [mI_sI, if_neg (by decide), mI_sI, if_neg (by decide), mI_sI, if_pos rfl]; exact j24
          have xR : gR (setR w6 8 (eB g + 1) (gR w2 8 (eB g + 1))) 8 (eB g + 1) = gR w2 8 (eB g + 1) := by rw [gR_setR, up2_at]
          refine ⟨⟨mEndLast σ6 (o + 1) (40 * r + e), c6, nf6, kj + 1 + k6 + 1, ((m1.thn hMl).thn t1).thn hMe, Base_I 29 _ (Base_I 30 _ (Base_I 32 _ (Base_I 31 _ (Base_R _ t2) (by omega)) (by omega)) (by omega)) (by omega), ((m4.thn hC5).thn t3).thn (CFr_setR _ _), (((hFr6.I 31 _ (by omega)).I 32 _ (by omega)).I 30 _ (by omega)).I 29 _ (by omega), by unfold Bnd; omega, g6, ?_, ?_, ?_⟩, fun q => absurd q (by omega)⟩
          · unfold mEndLast; rw [mI_sI, if_pos rfl]
          · unfold mEndLast; rw [mI_sI, if_neg (by decide), mI_sI, if_neg (by decide), mI_sI, if_neg (by decide), mI_sI, if_neg (by decide)]; exact t8
          · rcases m10 with y | y | y | y
            · refine Or.inl ⟨y.1, by rw [x31]; exact y.1, ?_, by rw [xR]; exact y.2.2.2⟩
              unfold mEndLast; rw [mI_sI, if_neg (by decide), mI_sI, if_pos rfl, hnx]; rfl
            · exact Or.inr (Or.inl ⟨y.1, by rw [x31]; exact y.1, y.2.2.1, by rw [xR]; exact y.2.2.2⟩)
            · exact Or.inr (Or.inr (Or.inl ⟨y.1, by rw [x31]; exact y.1, by rw [xR]; exact y.2.2⟩))
            · obtain ⟨y1, y2, f, φ, y3, y4, y5⟩ := y
              refine Or.inr (Or.inr (Or.inr ⟨y1, by rw [x31]; exact y1, f, φ, by rw [xR]; exact y3, by rw [x32]; exact y4, ?_⟩))
              exact FR_same (by omega) (by omega) (fun j ii a1 a2 a3 => by rw [← hF5.2.2.2.1 j ii a1 a2 a3]; exact t4.2.2.2.1 j ii a1 a2 a3) ((hC5.thn t3).thn (CFr_setR _ _)) y5
end STEP6
