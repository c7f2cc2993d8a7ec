theorem fMay_01 (wh : Nat → Int32) (v : Nat) (bs : List (Nat × Nat × Nat)) : fMay wh v bs = 0 ∨ fMay wh v bs = 1 := by
  unfold fMay
  split
  · cases bs
    · exact Or.inl rfl
    · exact Or.inr rfl
  split
  · cases bs
    · exact Or.inl rfl
    · exact fTk_01 _ _ _
  split
  · exact fLv_01 _ _
  split
  · split
    · exact Or.inr rfl
    · exact Or.inl rfl
  split
  · exact fPO_01 _ _ _
  split
  · split
    · exact Or.inr rfl
    · exact Or.inl rfl
  · exact Or.inr rfl
theorem fLv_ex {wh : Nat → Int32} : ∀ {bs : List (Nat × Nat × Nat)}, fLv wh bs = 1 → ∃ b ∈ bs, wh b.1 = 4
  | [], h => absurd (show (0 : Int32) = 1 from h) (by decide)
  | b :: bs, h => by
    unfold fLv at h
    by_cases h1 : wh b.1 = 4
    · exact ⟨b, List.mem_cons_self, h1⟩
    · rw [if_neg h1] at h
      by_cases h2 : wh b.2.1 = 3
      · rw [if_pos h2] at h; exact absurd h (by decide)
      · rw [if_neg h2] at h
        obtain ⟨b', m, e⟩ := fLv_ex h
        exact ⟨b', List.mem_cons_of_mem _ m, e⟩
theorem fPO_ex {wh : Nat → Int32} {v : Int32} : ∀ {bs : List (Nat × Nat × Nat)}, fPO wh v bs = 1 → ∃ b ∈ bs, wh b.2.1 = v
  | [], h => absurd (show (0 : Int32) = 1 from h) (by decide)
  | b :: bs, h => by
    unfold fPO at h
    by_cases h1 : wh b.2.1 = v
    · exact ⟨b, List.mem_cons_self, h1⟩
    · rw [if_neg h1] at h
      obtain ⟨b', m, e⟩ := fPO_ex h
      exact ⟨b', List.mem_cons_of_mem _ m, e⟩
theorem fTk_1 {wh : Nat → Int32} {v : Int32} {b : Nat × Nat × Nat} (h : fTk wh v b = 1) : wh b.1 = 1 ∧ ¬ wh b.2.1 = 3 ∧ (v = 2 → b.2.2 < 3) := by
  unfold fTk at h
  by_cases h1 : wh b.1 = 1
  · rw [if_pos h1] at h
    by_cases h2 : wh b.2.1 = 3
    · rw [if_pos h2] at h; exact absurd h (by decide)
    · rw [if_neg h2] at h
      refine ⟨h1, h2, fun h3 => ?_⟩
      rw [if_pos h3] at h
      by_cases h4 : b.2.2 < 3
      · exact h4
      · rw [if_neg h4] at h; exact absurd h (by decide)
  · rw [if_neg h1] at h; exact absurd h (by decide)
section PST
variable {g : GE} {P : PG} {O : Nat → Nat} {w : GW} {σ : MW} {r s v : Nat} {x y z : Int32} {o p xx q : Nat} {bs : List (Nat × Nat × Nat)}
theorem bpW_2 {w1 : GW} {n : Nat} : bpW w1 q p n 2 = setI (setR (setR w1 455 p (some n)) 66 q (some n)) 67 q (gI w1 67 q + 1) := by unfold bpW; rw [if_pos rfl]
theorem bpW_3 {w1 : GW} {n : Nat} : bpW w1 q p n 3 = setR (setR w1 455 p (some n)) 66 q (some n) := by unfold bpW; rw [if_neg (by decide)]
theorem gU_bp {w1 : GW} {n : Nat} {v : Int32} : gU (bpW w1 q p n v) = gU w1 ∧ gN (bpW w1 q p n v) = gN w1 := by
  unfold bpW
  split
  · exact ⟨by rw [gU_setI, gU_setR, gU_setR], by rw [gN_setI, gN_setR, gN_setR]⟩
  · exact ⟨by rw [gU_setR, gU_setR], by rw [gN_setR, gN_setR]⟩
theorem SFr_bp {w1 : GW} {n : Nat} {u : Int32} (h : SFr g O r w w1) (hp : eB g + 99 ≤ p ∧ own O r p) (hq : eB g + 99 ≤ q ∧ own O r q) : SFr g O r w (bpW w1 q p n u) := by
  have h1 := (h.R 455 p (some n) (Or.inr ⟨by omega, Or.inr hp⟩)).R 66 q (some n) (Or.inr ⟨by omega, Or.inr hq⟩)
  unfold bpW
  split
  · exact h1.I 67 q _ (Or.inr ⟨by omega, Or.inr hq⟩)
  · exact h1
theorem RT_part {x' : Nat} (hS : SK g w) (hr : r < 4) (h : RT g P O w (mA σ) r s ((o, p, xx) :: bs)) (hs : s < 40) (hv : v < 25) (ht : fT v x y z = 1) (hx' : (v = 2 ∧ xx < 3 ∧ x' = xx + 1) ∨ (v = 3 ∧ x' = xx)) (hwo : mA σ 0 (40 * r + o) = 1) (hwp : ¬ mA σ 0 (40 * r + p) = 3) (hq : gR w 322 (aRt g r) = some q) (hqr : gOb g w q 1) (hOq : O q = r) (h67 : gI w 67 q = nI xx) :
    RT g (upN (upP P r s (gN w)) r p s) (upO O (gN w) (4 + (40 * r + s))) (bpW (apW g w r s (nI v) x y z) q (pQ P r p) (gN w) (nI v)) (mA (mStP (mSt σ r s (nI v) x y z) r s bs.length (40 * r + p) (nI x'))) r (s + 1) ((o, s, x') :: bs) ∧ SFr g O r w (bpW (apW g w r s (nI v) x y z) q (pQ P r p) (gN w) (nI v)) := by
  have hB0 : eB g ≤ gN w := by have := hS.1; omega
  obtain ⟨hl, hb⟩ := RT_len h
  obtain ⟨b1, b2, b3, b4⟩ := hb (o, p, xx) List.mem_cons_self
  have b2' : p < s := b2
  have hpo := (h.1.2.2.2.2.1 p b2').2.1
  have hF : SFr g O r w (bpW (apW g w r s (nI v) x y z) q (pQ P r p) (gN w) (nI v)) := SFr_bp (SFr_ap g O w r s (nI v) x y z) ⟨ob_99 hS hpo (Or.inr rfl), own_step h b2'⟩ ⟨ob_99 hS hqr (Or.inl rfl), Or.inl hOq⟩
  refine ⟨?_, hF⟩
  have hqn := hqr.2.1
  have hne : ¬ pQ P r p = q := fun e => by
    have := hpo.2.2
    rw [e, hqr.2.2] at this
    exact absurd this (by decide)
  have hobn : gOb g (bpW (apW g w r s (nI v) x y z) q (pQ P r p) (gN w) (nI v)) (gN w) 7 := by
    have h0 := ap_ob (r := r) (s := s) (v := nI v) (x := x) (y := y) (z := z) hB0
    refine ⟨h0.1, by rw [(gU_bp).2]; exact h0.2.1, ?_⟩
    have h2 := h0.2.2
    rcases hx' with ⟨rfl, -⟩ | ⟨rfl, -⟩
    · rw [show (nI 2 : Int32) = 2 from rfl, bpW_2, gK_setI, gK_setR, gK_setR]; exact h2
    · rw [show (nI 3 : Int32) = 3 from rfl, bpW_3, gK_setR, gK_setR]; exact h2
  rcases hx' with ⟨rfl, z1, rfl⟩ | ⟨rfl, rfl⟩
  · have eb : bpW (apW g w r s (nI 2) x y z) q (pQ P r p) (gN w) (nI 2) = setI (setR (setR (apW g w r s (nI 2) x y z) 455 (pQ P r p) (some (gN w))) 66 q (some (gN w))) 67 q (gI (apW g w r s (nI 2) x y z) 67 q + 1) := bpW_2
    rw [eb] at hF hobn ⊢
    refine RT_part_of hS hr h hs hv ht (Or.inl ⟨rfl, z1, rfl⟩) hwo hwp hF hq (fun c a ha hh => by rw [gI_setI, up2_ne _ _ hh, gI_setR, gI_setR]) (fun c a ha h1 h2 => by rw [gR_setI, gR_setR, up2_ne _ _ h2, gR_setR, up2_ne _ _ h1]) (by rw [gR_setI, gR_setR, up2_ne _ _ (by omega), gR_setR, up2_at]) (by rw [gR_setI, gR_setR, up2_at]) ?_ hobn (fun a i => by rw [gP_setI, gP_setR, gP_setR])
    rw [gI_setI, up2_at, apI_old hqn (by omega), h67]
    exact nI_1 xx
  · have eb : bpW (apW g w r s (nI 3) x y z) q (pQ P r p) (gN w) (nI 3) = setR (setR (apW g w r s (nI 3) x y z) 455 (pQ P r p) (some (gN w))) 66 q (some (gN w)) := bpW_3
    rw [eb] at hF hobn ⊢
    refine RT_part_of hS hr h hs hv ht (Or.inr ⟨rfl, rfl⟩) hwo hwp hF hq (fun c a ha hh => by rw [gI_setR, gI_setR]) (fun c a ha h1 h2 => by rw [gR_setR, up2_ne _ _ h2, gR_setR, up2_ne _ _ h1]) (by rw [gR_setR, up2_ne _ _ (by omega), gR_setR, up2_at]) (by rw [gR_setR, up2_at]) ?_ hobn (fun a i => by rw [gP_setR, gP_setR])
    rw [gI_setR, gI_setR, apI_old hqn (by omega)]
    exact h67
theorem RT_end (hS : SK g w) (hr : r < 4) (h : RT g P O w (mA σ) r s ((o, p, xx) :: bs)) (hs : s < 40) (ht : fT 0 x y z = 1) (hq : gR w 322 (aRt g r) = some q) (hqr : gOb g w q 1) (hOq : O q = r) :
    RT g (upE (upN (upP P r s (gN w)) r p s) r o s) (upO O (gN w) (4 + (40 * r + s))) (clW (apW g w r s (nI 0) x y z) q (pQ P r p) (gN w) (pQ P r o) (aRt g r) (gR w 65 q)) (mA (mStE (mStP (mSt σ r s (nI 0) x y z) r s bs.length (40 * r + p) (nI xx)) r s bs.length (40 * r + o))) r (s + 1) bs ∧ SFr g O r w (clW (apW g w r s (nI 0) x y z) q (pQ P r p) (gN w) (pQ P r o) (aRt g r) (gR w 65 q)) := by
  have hB0 : eB g ≤ gN w := by have := hS.1; omega
  have hrt := rt_lt hS hr
  obtain ⟨hl, hb⟩ := RT_len h
  obtain ⟨b1, b2, b3, b4⟩ := hb (o, p, xx) List.mem_cons_self
  have b1' : o ≤ p := b1
  have b2' : p < s := b2
  have hpo := (h.1.2.2.2.2.1 p b2').2.1
  have hoo := (h.1.2.2.2.2.1 o (by omega)).2.1
  have h99 := ob_99 hS hoo (Or.inr rfl)
  have hor : ¬ pQ P r o = aRt g r := fun e => by rw [e] at h99; revert h99; unfold aRt; split <;> omega
  have hF : SFr g O r w (clW (apW g w r s (nI 0) x y z) q (pQ P r p) (gN w) (pQ P r o) (aRt g r) (gR w 65 q)) := by
    unfold clW
    exact (((((SFr_ap g O w r s (nI 0) x y z).R 455 _ _ (Or.inr ⟨by omega, Or.inr ⟨ob_99 hS hpo (Or.inr rfl), own_step h b2'⟩⟩)).R 66 _ _ (Or.inr ⟨by omega, Or.inr ⟨ob_99 hS hqr (Or.inl rfl), Or.inl hOq⟩⟩)).I 454 _ _ (Or.inr ⟨by omega, Or.inr ⟨h99, own_step h (by omega)⟩⟩)).R 322 _ _ (Or.inr ⟨by omega, Or.inl rfl⟩)).I 324 _ _ (Or.inr ⟨by omega, Or.inl rfl⟩)
  refine ⟨?_, hF⟩
  obtain ⟨n1, n2, n3, n4, n5, n6, n7⟩ := apI_new (g := g) (w := w) (r := r) (s := s) (v := nI 0) (x := x) (y := y) (z := z)
  have h0 := ap_ob (r := r) (s := s) (v := nI 0) (x := x) (y := y) (z := z) hB0
  have hobn : gOb g (clW (apW g w r s (nI 0) x y z) q (pQ P r p) (gN w) (pQ P r o) (aRt g r) (gR w 65 q)) (gN w) 7 := by
    unfold clW
    exact ⟨h0.1, by rw [gN_setI, gN_setR, gN_setI, gN_setR, gN_setR]; exact h0.2.1, by rw [gK_setI, gK_setR, gK_setI, gK_setR, gK_setR]; exact h0.2.2⟩
  have h324 : gI (apW g w r s (nI 0) x y z) 324 (aRt g r) = nI (bs.length + 1) := by rw [apI_old hrt (by omega), h.1.2.2.2.1, h.2.2.1, List.length_cons]
  refine RT_end_of hS hr h hs ht hF hq ?_ ?_ ?_ ?_ ?_ ?_ hobn ?_
  · intro c a ha h1 h2
    unfold clW
    rw [gI_setI, up2_ne _ _ h2, gI_setR, gI_setI, up2_ne _ _ h1, gI_setR, gI_setR]
  · intro c a ha h1 h2 h3
    unfold clW
    rw [gR_setI, gR_setR, up2_ne _ _ h3, gR_setI, gR_setR, up2_ne _ _ h2, gR_setR, up2_ne _ _ h1]
  · unfold clW
    rw [gR_setI, gR_setR, up2_ne _ _ (by omega), gR_setI, gR_setR, up2_ne _ _ (by omega), gR_setR, up2_at]
  · unfold clW
    rw [gI_setI, up2_ne _ _ (by omega), gI_setR, gI_setI, up2_at, n5]
  · unfold clW
    rw [gR_setI, gR_setR, up2_at]
  · unfold clW
    rw [gI_setI, up2_at, h324, ← nI_1]
    simp
  · intro a i
    unfold clW
    rw [gP_setI, gP_setR, gP_setI, gP_setR, gP_setR]
end PST
set_option maxHeartbeats 4000000 in
theorem pair_step {g : GE} {P : PG} {O : Nat → Nat} {d : Nat} {w : GW} {σ : MW} (hd : 8 ≤ d) (hG : GT g) (hI : INV g P O w σ) (v a b c : Int32) : Pair g d mX9_step mX10_step [.int v, .int a, .int b, .int c] w σ RI := by
  refine Pair_inv hI (fun w hM hI => ?_)
  obtain ⟨hS, hR, hD, hC, hT, r, hr, ra, rb⟩ := id hI
  obtain ⟨s, bs, hRT⟩ := hR r hr
  obtain ⟨hX, hLp⟩ := RT_mx hr rb hRT
  obtain ⟨hl, hbs⟩ := RT_len hRT
  obtain ⟨⟨p1, p2, p3, p4, p5, p6, p7⟩, hOw, h7, hBC, hMB, hCT⟩ := id hRT
  have hsok := RT_sok hRT
  have hx3 : ∀ b ∈ bs, b.2.2 ≤ 3 := fun b hb => (hbs b hb).2.2.1
  have ho : gI w 324 (aRt g r) = nI bs.length := p4.trans h7
  have hrt := rt_lt hS hr
  have oR := (hS.rt hr).1
  have hB0 : eB g ≤ gN w := by have := hS.1; omega
  by_cases hv : ∃ j : Nat, j < 25 ∧ v = nI j
  · obtain ⟨j, hj, rfl⟩ := hv
    rcases fT_01 j a b c with ht | ht
    · exact ⟨.int (-1), .int (-1), P, O, w, σ, fun Q hQ => f_stepNo (by omega) hS hG.1 hj ht hQ, hM, fun w1 hS1 Q hQ => m_stepNo1 (s := s) (by omega) hS1 hX hLp hj ht hQ, ⟨-1, rfl, rfl⟩, hI, by omega, by omega⟩
    rcases fMay_01 (fun i => mA σ 0 (40 * r + i)) j bs with hm | hm
    · exact ⟨.int (-2), .int (-2), P, O, w, σ, fun Q hQ => f_stepOn (by omega) hS hr ra hG.1 hj ht (fun Q2 hQ2 => c_appendNo (s := s) (by omega) hS hr hBC hsok hx3 ho hl hj hm hQ2) hQ, hM, fun w1 hS1 Q hQ => m_stepNo2 (s := s) (by omega) hS1 hX hLp hj ht hm hQ, ⟨-2, rfl, rfl⟩, hI, by omega, by omega⟩
    by_cases h40 : s = 40
    · exact ⟨.int (-3), .int (-3), P, O, w, σ, fun Q hQ => f_stepOn (by omega) hS hr ra hG.1 hj ht (fun Q2 hQ2 => c_appendFull (s := s) (by omega) hS hr hBC hsok hx3 ho hl hj hm (by rw [p2, h40]) hQ2) hQ, hM, fun w1 hS1 Q hQ => m_stepNo3 (by omega) hS1 hX hLp hj ht hm p3 h40 hQ, ⟨-3, rfl, rfl⟩, hI, by omega, by omega⟩
    have hs : s < 40 := by omega
    have n0 := (apI_new (g := g) (w := w) (r := r) (s := s) (v := nI j) (x := a) (y := b) (z := c)).1
    have obn := ap_ob (r := r) (s := s) (v := nI j) (x := a) (y := b) (z := c) hB0
    have oR1 := ap_keep (r := r) (s := s) (v := nI j) (x := a) (y := b) (z := c) oR
    -- what is common to the ways that a step is taken
    have take : ∀ (W : GW) (τ : MW) (P' : PG) (O' : Nat → Nat) (bs' : List (Nat × Nat × Nat)), Ans g (d - 1 - 1) mX5_tieToBlocks [.ref (aRt g r), .ref (gN w)] (apW g w r s (nI j) a b c) none W → (∀ w1, SK g w1 → Ans g d mX10_step [.ref (eB g + 70), .int (nI j), .int a, .int b, .int c] (put g σ w1) (some (.int (nI (s + 1)))) (put g τ w1)) → RT g P' O' W (mA τ) r (s + 1) bs' → SFr g O r w W → MSF σ τ r → (∀ a, a < gN w → O' a = O a) → (∀ r', ¬ r' = r → pQ P' r' = pQ P r' ∧ pN P' r' = pN P r' ∧ pE P' r' = pE P r') → gN W ≤ gN w + 2 → gU W ≤ gU w + 12 → ∃ (a1 b1 : Value) (P' : PG) (O' : Nat → Nat) (w' : GW) (σ' : MW), Ans g d mX9_step [.ref (eB g), .int (nI j), .int a, .int b, .int c] w (some a1) w' ∧ MP g σ w' ∧ (∀ w1, SK g w1 → Ans g d mX10_step [.ref (eB g + 70), .int (nI j), .int a, .int b, .int c] (put g σ w1) (some b1) (put g σ' w1)) ∧ RI a1 b1 ∧ INV g P' O' w' σ' ∧ gN w' ≤ gN w + 600 ∧ gU w' ≤ gU w + 3600 := by
      intro W τ P' O' bs' hTie hMod hRT' hF hMS hO' hP' hN hU
      exact ⟨.int (nI (s + 1)), .int (nI (s + 1)), P', O', W, τ, fun Q hQ => f_stepOn (by omega) hS hr ra hG.1 hj ht (fun Q2 hQ2 => c_appendOn (by omega) hS hr hBC hsok hx3 ho hl hj hm p2 hs hTie hRT'.1.2.1 (hF.ob oR) hQ2) hQ, MP_sfr hS hM hF, hMod, ⟨_, rfl, rfl⟩, INV_step hI hr hF hMS hO' hP' ⟨s + 1, bs', hRT'⟩, by omega, by omega⟩
    have hOn : ∀ k, ∀ a, a < gN w → upO O (gN w) k a = O a := fun k a ha => upO_ne (Nat.ne_of_lt ha)
    by_cases hopn : j = 1 ∨ j = 4 ∨ j = 11
    · have hl6 : bs.length < 6 := by
        have e : fMay (fun i => mA σ 0 (40 * r + i)) j bs = (if bs.length < 6 then 1 else 0) := by
          unfold fMay
          rw [if_neg (by omega), if_neg (by omega), if_neg (by omega), if_neg (by omega), if_neg (by omega), if_pos hopn]
        rw [e] at hm
        by_cases z : bs.length < 6
        · exact z
        · rw [if_neg z] at hm; exact absurd hm (by decide)
      obtain ⟨h1, h2⟩ := RT_open hS hr hRT hs hj ht hopn hl6
      refine take _ _ _ _ _ (fun Q hQ => ?_) (fun w1 hS1 Q hQ => m_stepOpen (by omega) hS1 hX hLp hj ht hm p3 hs hopn hl6 hQ) h1 h2 (MSF_O hl6 (MSF_st hs)) (fun a ha => by rw [upO_ne (by omega), upO_ne (Nat.ne_of_lt ha)]) (fun r' hr' => upP_other hr') (by unfold opW; rw [gN_setI, gN_setR, gN_setR, gN_setR, gN_setR, gN_newO, apN]; omega) (by unfold opW; rw [gU_setI, gU_setR, gU_setR, gU_setR, gU_setR, gU_newO, apU]; omega)
      have hB1 : eB g ≤ gN (apW g w r s (nI j) a b c) := by rw [apN]; omega
      rcases hopn with rfl | rfl | rfl
      · exact c_tie1 (by omega) oR1 obn n0 hB1 (apR_old hrt) hQ
      · exact c_tie4 (by omega) oR1 obn n0 hB1 (apR_old hrt) hQ
      · exact c_tie11 (by omega) oR1 obn n0 hB1 (apR_old hrt) hQ
    by_cases hprt : j = 2 ∨ j = 3
    · cases bs with
      | nil =>
        exfalso
        have e : fMay (fun i => mA σ 0 (40 * r + i)) j [] = 0 := by
          unfold fMay
          rw [if_neg (by omega), if_pos hprt]
        rw [e] at hm
        exact absurd hm (by decide)
      | cons b0 bs =>
        obtain ⟨o, p, xx⟩ := b0
        have e : fMay (fun i => mA σ 0 (40 * r + i)) j ((o, p, xx) :: bs) = fTk (fun i => mA σ 0 (40 * r + i)) (nI j) (o, p, xx) := by
          unfold fMay
          rw [if_neg (by omega), if_pos hprt]
        rw [e] at hm
        have hm0 := hm
        rw [← e] at hm0
        obtain ⟨t1, t2, t3⟩ := fTk_1 hm
        obtain ⟨q, e0, o1, o2, o3, o4, o5, o6, o7⟩ := id hBC
        obtain ⟨b1, b2, b3, b4⟩ := hbs (o, p, xx) List.mem_cons_self
        have b1' : o ≤ p := b1
        have b2' : p < s := b2
        have hpo := (p5 p b2').2.1
        have hln : bs.length < 6 := by rw [List.length_cons] at hl; omega
        have hx : ∃ x' : Nat, (j = 2 ∧ xx < 3 ∧ x' = xx + 1) ∨ (j = 3 ∧ x' = xx) := by
          rcases hprt with rfl | rfl
          · exact ⟨xx + 1, Or.inl ⟨rfl, t3 rfl, rfl⟩⟩
          · exact ⟨xx, Or.inr ⟨rfl, rfl⟩⟩
        obtain ⟨x', hx'⟩ := hx
        obtain ⟨h1, h2⟩ := RT_part hS hr hRT hs hj ht hx' t1 t2 e0 o1 o2 o5
        have i322 : gR (apW g w r s (nI j) a b c) 322 (aRt g r) = some q := by rw [apR_old hrt]; exact e0
        have i66 : gR (apW g w r s (nI j) a b c) 66 q = some (pQ P r p) := by rw [apR_old o1.2.1]; exact o4
        refine take _ _ _ _ _ (fun Q hQ => ?_) (fun w1 hS1 Q hQ => ?_) h1 h2 (MSF_P (x := nI x') hln (by omega) (MSF_st hs)) (hOn _) (fun r' hr' => ⟨(upP_other hr').1, (upN_other hr').trans (upP_other hr').2.1, (upP_other hr').2.2⟩) (by rw [gU_bp.2, apN]; omega) (by rw [gU_bp.1, apU]; omega)
        · rcases hprt with rfl | rfl
          · exact c_tie2 (by omega) oR1 obn n0 i322 (ap_keep o1) i66 (ap_keep hpo) hQ
          · exact c_tie3 (by omega) oR1 obn n0 i322 (ap_keep o1) i66 (ap_keep hpo) hQ
        · rcases hx' with ⟨rfl, z1, rfl⟩ | ⟨rfl, rfl⟩
          · exact m_stepPart2 (by omega) hS1 hX hLp ht hm0 p3 hs hQ
          · exact m_stepPart3 (by omega) hS1 hX hLp ht hm0 p3 hs hQ
    by_cases hend : j = 0
    · subst hend
      cases bs with
      | nil => exact absurd (show (0 : Int32) = 1 from hm) (by decide)
      | cons b0 bs =>
        obtain ⟨o, p, xx⟩ := b0
        obtain ⟨q, e0, o1, o2, o3, o4, o5, o6, o7⟩ := id hBC
        obtain ⟨b1, b2, b3, b4⟩ := hbs (o, p, xx) List.mem_cons_self
        have b1' : o ≤ p := b1
        have b2' : p < s := b2
        have hpo := (p5 p b2').2.1
        have hoo := (p5 o (by omega)).2.1
        have hln : bs.length < 6 := by rw [List.length_cons] at hl; omega
        obtain ⟨h1, h2⟩ := RT_end hS hr hRT hs ht e0 o1 o2
        have i322 : gR (apW g w r s (nI 0) a b c) 322 (aRt g r) = some q := by rw [apR_old hrt]; exact e0
        have i66 : gR (apW g w r s (nI 0) a b c) 66 q = some (pQ P r p) := by rw [apR_old o1.2.1]; exact o4
        have i64 : gR (apW g w r s (nI 0) a b c) 64 q = some (pQ P r o) := by rw [apR_old o1.2.1]; exact o3
        have i65 : gR (apW g w r s (nI 0) a b c) 65 q = gR w 65 q := apR_old o1.2.1
        refine take _ _ _ _ _ (fun Q hQ => c_tie0 (by omega) oR1 obn n0 i322 (ap_keep o1) i66 (ap_keep hpo) i64 (ap_keep hoo) i65 hQ) (fun w1 hS1 Q hQ => m_stepEnd (by omega) hS1 hX hLp ht hm p3 hs hQ) h1 h2 (MSF_E (by omega) (MSF_P hln (by omega) (MSF_st hs))) (hOn _) (fun r' hr' => ⟨(upP_other hr').1, (upN_other hr').trans (upP_other hr').2.1, (upE_other hr').trans (upP_other hr').2.2⟩) (by unfold clW; rw [gN_setI, gN_setR, gN_setI, gN_setR, gN_setR, apN]; omega) (by unfold clW; rw [gU_setI, gU_setR, gU_setI, gU_setR, gU_setR, apU]; omega)
    · have hp6 : ¬ j = 0 ∧ ¬ j = 1 ∧ ¬ j = 2 ∧ ¬ j = 3 ∧ ¬ j = 4 ∧ ¬ j = 11 := by omega
      have h5 : j = 5 → ∃ b ∈ bs, mA σ 0 (40 * r + b.1) = 4 := fun e => by
        subst e
        exact fLv_ex (wh := fun i => mA σ 0 (40 * r + i)) hm
      have h8 : j = 8 ∨ j = 9 ∨ j = 10 → ∃ b ∈ bs, mA σ 0 (40 * r + b.2.1) = 2 := fun e => by
        have e2 : fMay (fun i => mA σ 0 (40 * r + i)) j bs = fPO (fun i => mA σ 0 (40 * r + i)) 2 bs := by
          unfold fMay
          rw [if_neg (by omega), if_neg (by omega), if_neg (by omega), if_neg (by omega), if_pos e]
        rw [e2] at hm
        exact fPO_ex (wh := fun i => mA σ 0 (40 * r + i)) hm
      have h1 := RT_plain hS hr hRT hs hj ht hp6 h5 h8
      exact take _ _ _ _ _ (fun Q hQ => c_tiePlain oR1 obn n0 (by omega) hj hQ) (fun w1 hS1 Q hQ => m_stepPlain (by omega) hS1 hX hLp hj ht hm p3 hs hp6 hQ) h1 (SFr_ap g O w r s (nI j) a b c) (MSF_st hs) (hOn _) (fun r' hr' => upP_other hr') (by rw [apN]; omega) (by rw [apU]; omega)
  · have h1 : v < 0 ∨ 24 < v := by
      rcases rng_out (n := 25) (by decide) hv with z | z
      · exact Or.inl z
      · refine Or.inr (Int32.lt_iff_toInt_lt.mpr ?_)
        have := Int32.le_iff_toInt_le.mp z
        rw [nI_toInt (by decide)] at this
        have e : (24 : Int32).toInt = 24 := rfl
        omega
    have h2 : v.toInt < 0 ∨ 24 < v.toInt := by
      rcases h1 with z | z
      · exact Or.inl (Int32.lt_iff_toInt_lt.mp z)
      · exact Or.inr (Int32.lt_iff_toInt_lt.mp z)
    exact ⟨.int (-1), .int (-1), P, O, w, σ, fun Q hQ => f_stepOut (by omega) hS h1 hQ, hM, fun w1 hS1 Q hQ => m_stepOut (by omega) hS1 h2 hQ, ⟨-1, rfl, rfl⟩, hI, by omega, by omega⟩
