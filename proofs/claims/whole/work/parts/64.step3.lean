section RTP
variable {g : GE} {P : PG} {O : Nat → Nat} {w W : GW} {σ : MW} {r s v : Nat} {x y z : Int32} {o p xx : Nat} {bs : List (Nat × Nat × Nat)}
theorem mStP_lo {τ : MW} {D q j i : Nat} {u : Int32} (h : j ≤ 4 ∨ (j = 5 ∧ ¬ i = q) ∨ j = 6 ∨ j = 7 ∨ j = 8 ∨ (9 ≤ j ∧ ¬ i = 6 * r + D)) : mA (mStP τ r s D q u) j i = mA τ j i := by
  unfold mStP
  rw [mA_sA, if_neg (by omega), mA_sA, if_neg (by omega), mA_sA, if_neg (by omega)]
theorem mStP_5 {τ : MW} {D q : Nat} {u : Int32} : mA (mStP τ r s D q u) 5 q = nI (40 * r + s) := by
  unfold mStP
  rw [mA_sA, if_neg (by omega), mA_sA, if_neg (by omega), mA_sA, if_pos ⟨rfl, rfl⟩]
theorem mStP_top {τ : MW} {D q : Nat} {u : Int32} : mA (mStP τ r s D q u) 9 (6 * r + D) = nI (40 * r + s) ∧ mA (mStP τ r s D q u) 10 (6 * r + D) = u := by
  unfold mStP
  refine ⟨?_, ?_⟩
  · rw [mA_sA, if_neg (by omega), mA_sA, if_pos ⟨rfl, rfl⟩]
  · rw [mA_sA, if_pos ⟨rfl, rfl⟩]
theorem mStE_lo {τ : MW} {D q j i : Nat} (h : j ≤ 3 ∨ (j = 4 ∧ ¬ i = q) ∨ j = 5 ∨ j = 6 ∨ (j = 7 ∧ ¬ i = r) ∨ 8 ≤ j) : mA (mStE τ r s D q) j i = mA τ j i := by
  unfold mStE
  rw [mA_sA, if_neg (by omega), mA_sA, if_neg (by omega)]
theorem mStE_at {τ : MW} {D q : Nat} : mA (mStE τ r s D q) 4 q = nI (40 * r + s) ∧ mA (mStE τ r s D q) 7 r = nI D := by
  unfold mStE
  refine ⟨?_, ?_⟩
  · rw [mA_sA, if_neg (by omega), mA_sA, if_pos ⟨rfl, rfl⟩]
  · rw [mA_sA, if_pos ⟨rfl, rfl⟩]
theorem pQ_inj (h : RT g P O w (mA σ) r s bs) {i j : Nat} (hi : i < s) (hj : j < s) (hne : ¬ i = j) : ¬ pQ P r i = pQ P r j := fun e => by
  have h1 := h.2.1 i hi
  have h2 := h.2.1 j hj
  rw [e, h2] at h1
  omega
theorem RT_part_of {q x' : Nat} (hS : SK g w) (hr : r < 4) (h : RT g P O w (mA σ) r s ((o, p, xx) :: bs)) (hs : s < 40) (hv : v < 25) (ht : fT v x y z = 1) (hx' : (v = 2 ∧ xx < 3 ∧ x' = xx + 1) ∨ (v = 3 ∧ x' = xx)) (hwo : mA σ 0 (40 * r + o) = 1) (hwp : ¬ mA σ 0 (40 * r + p) = 3) (hF : SFr g O r w W)
    (hq : gR w 322 (aRt g r) = some q) (eI : ∀ c a, a < gN w + 1 → ¬ (c = 67 ∧ a = q) → gI W c a = gI (apW g w r s (nI v) x y z) c a) (eR : ∀ c a, a < gN w + 1 → ¬ (c = 455 ∧ a = pQ P r p) → ¬ (c = 66 ∧ a = q) → gR W c a = gR (apW g w r s (nI v) x y z) c a)
    (r455 : gR W 455 (pQ P r p) = some (gN w)) (r66 : gR W 66 q = some (gN w)) (i67 : gI W 67 q = nI x') (hobn : gOb g W (gN w) 7) (eP : ∀ a i, gP W a i = gP (apW g w r s (nI v) x y z) a i) :
    RT g (upN (upP P r s (gN w)) r p s) (upO O (gN w) (4 + (40 * r + s))) W (mA (mStP (mSt σ r s (nI v) x y z) r s bs.length (40 * r + p) (nI x'))) r (s + 1) ((o, s, x') :: bs) := by
  have hB0 : eB g ≤ gN w := by have := hS.1; omega
  have hrt := rt_lt hS hr
  obtain ⟨⟨p1, p2, p3, p4, p5, p6, p7⟩, hOw, h7, hBC, hMB, hCT⟩ := id h
  obtain ⟨hl, hb⟩ := RT_len h
  obtain ⟨b1, b2, b3, b4⟩ := hb (o, p, xx) List.mem_cons_self
  have b1' : o ≤ p := b1
  have b2' : p < s := b2
  rw [List.length_cons] at h7 hl
  obtain ⟨n1, n2, n3, n4, n5, n6, n7⟩ := apI_new (g := g) (w := w) (r := r) (s := s) (v := nI v) (x := x) (y := y) (z := z)
  obtain ⟨k0, k1, k2, k3⟩ := mSt_0 σ r s (nI v) x y z
  obtain ⟨q', e0, o1, o2, o3, o4, o5, o6, o7⟩ := id hBC
  have eqq : q = q' := Option.some.inj (hq.symm.trans e0)
  subst eqq
  have hqn := o1.2.1
  have hpn := (p5 p b2').2.1.2.1
  have hq99 := ob_99 hS o1 (Or.inl rfl)
  have hqr : ¬ aRt g r = q := fun e => by rw [← e] at hq99; revert hq99; unfold aRt; split <;> omega
  have mo : ∀ j i, j ≤ 3 ∨ j = 4 ∨ j = 6 ∨ j = 7 ∨ j = 8 → mA (mStP (mSt σ r s (nI v) x y z) r s bs.length (40 * r + p) (nI x')) j i = mA (mSt σ r s (nI v) x y z) j i := fun j i hj => mStP_lo (by omega)
  have hQs : ∀ i, pQ (upN (upP P r s (gN w)) r p s) r i = if i = s then gN w else pQ P r i := fun i => upP_q
  refine ⟨PR1_app h.1 hs hF hQs (by rw [eI _ _ (by omega) (by omega)]; exact apI_used) ?_ (fun i => by rw [eP]; exact apP) hobn ⟨by rw [eI _ _ (by omega) (by omega), n1, mo _ _ (by omega), k0], by rw [eI _ _ (by omega) (by omega), n2, mo _ _ (by omega), k1], by rw [eI _ _ (by omega) (by omega), n3, mo _ _ (by omega), k2], by rw [eI _ _ (by omega) (by omega), n4, mo _ _ (by omega), k3], by rw [eI _ _ (by omega) (by omega), n5], by rw [eI _ _ (by omega) (by omega), n6]⟩ (fun i hi => ⟨?_, ?_⟩) (fun j i hj hi => by rw [mo _ _ (by omega)]; exact mSt_i _ _ _ _ _ _ _ (by omega) (by omega)) (by rw [mo _ _ (by omega)]; exact mSt_6 _ _ _ _ _ _ _) (told_arg hv ht (by rw [mo _ _ (by omega), k0]) (by rw [mo _ _ (by omega), k1]) (by rw [mo _ _ (by omega), k2]) (by rw [mo _ _ (by omega), k3])) (fun i j hi hj => ?_) (fun i hi => ?_), fun i hi => ?_, ?_, ?_, fun k hk => ?_, ?_⟩
  · rw [eI _ _ (by omega) (by omega), apI_old hrt (by omega), p4, mo _ _ (by omega), mSt_old _ _ _ _ _ _ _ _ _ (by omega)]
  · show gI W 454 (pQ (upN (upP P r s (gN w)) r p s) r i) = nI (pE (upP P r s (gN w)) r i)
    rw [hQs, upP_e]
    by_cases e : i = s
    · rw [if_pos e, if_pos e, eI _ _ (by omega) (by omega)]; exact n7
    · obtain ⟨q1, q2, q3, q4, q5, q6, q7, q8, q9, -⟩ := p5 i (by omega)
      have hqq := q2.2.1
      rw [if_neg e, if_neg e, eI _ _ (by omega) (by omega), apI_old hqq (by omega)]; exact q9
  · rw [hQs, upN_n, upP_n]
    by_cases e : i = s
    · rw [if_pos e, if_neg (by omega), if_pos e, eR _ _ (by omega) (by omega) (by omega)]; exact apR_new
    · obtain ⟨q1, q2, q3, q4, q5, q6, q7, q8, q9, q10, q11⟩ := p5 i (by omega)
      have hqq := q2.2.1
      rw [if_neg e, if_neg e]
      by_cases e2 : i = p
      · rw [if_pos e2, e2, r455]
        show some (gN w) = some (pQ (upN (upP P r s (gN w)) r p s) r s)
        rw [hQs, if_pos rfl]
      · rw [if_neg e2, eR _ _ (by omega) (fun q => pQ_inj h (by omega) b2' e2 q.2) (by omega), apR_old hqq]
        refine q10.trans (map_same (fun j hj => ?_)).symm
        rw [hQs, if_neg (by have := (p6 i j (by omega) hj).1; omega)]
  · rw [upN_n, upP_n] at hj
    by_cases e2 : i = p
    · rw [if_pos e2] at hj
      have : s = j := Option.some.inj hj
      subst this
      rw [e2]
      exact ⟨by omega, mStP_5⟩
    · rw [if_neg e2] at hj
      by_cases e : i = s
      · rw [if_pos e] at hj; cases hj
      · rw [if_neg e] at hj
        obtain ⟨y1, y2⟩ := p6 i j (by omega) hj
        exact ⟨by omega, by rw [mStP_lo (by omega), mSt_old _ _ _ _ _ _ _ _ _ (by omega)]; exact y2⟩
  · show pE (upP P r s (gN w)) r i < s + 1 ∧ (¬ pE (upP P r s (gN w)) r i = i → mA _ 4 (40 * r + i) = nI (40 * r + pE (upP P r s (gN w)) r i))
    by_cases e : i = s
    · subst e; rw [upP_e, if_pos rfl]; exact ⟨by omega, fun q => absurd rfl q⟩
    · obtain ⟨y1, y2⟩ := p7 i (by omega)
      rw [upP_e, if_neg e, mo _ _ (by omega), mSt_old _ _ _ _ _ _ _ _ _ (by omega)]
      exact ⟨by omega, y2⟩
  · rw [hQs]
    by_cases e : i = s
    · rw [if_pos e, upO_at, e]
    · rw [if_neg e, upO_ne (Nat.ne_of_lt (p5 i (by omega)).2.1.2.1)]; exact hOw i (by omega)
  · rw [mo _ _ (by omega), mSt_old _ _ _ _ _ _ _ _ _ (by omega), List.length_cons]; exact h7
  · have e322 : gR W 322 (aRt g r) = some q := by rw [eR _ _ (by omega) (by omega) (by omega), apR_old hrt]; exact hq
    rw [e322]
    have e65 : gR W 65 q = gR w 65 q := by rw [eR _ _ (by omega) (by omega) (by omega), apR_old hqn]
    have e64 : gR W 64 q = gR w 64 q := by rw [eR _ _ (by omega) (by omega) (by omega), apR_old hqn]
    refine ⟨q, rfl, hF.ob o1, by rw [upO_ne (Nat.ne_of_lt hqn)]; exact o2, by rw [e64, hQs, if_neg (by omega)]; exact o3, by rw [r66, hQs, if_pos rfl], i67, by rw [e65]; exact o6, ?_⟩
    rw [e65]
    refine BC_keep (B := q) (fun a ha => upO_ne (Nat.ne_of_lt ha)) (fun a k ha => hF.ob ha) (fun a haq ha => ⟨by rw [eI _ _ (by omega) (by omega), apI_old ha (by omega)], by rw [eR _ _ (by omega) (by omega) (by omega), apR_old ha], by rw [eR _ _ (by omega) (by omega) (by omega), apR_old ha], by rw [eR _ _ (by omega) (by omega) (by omega), apR_old ha]⟩) bs _ (fun b hbb => new_keep h b (List.mem_cons_of_mem _ hbb)) o6 o7
  · rw [List.length_cons] at hk
    by_cases e : k = bs.length
    · subst e
      obtain ⟨c1, c2, c3⟩ := hMB bs.length (by rw [List.length_cons]; omega)
      rw [nth_top] at c1 c2 c3
      rw [nth_top]
      obtain ⟨t1, t2⟩ := mStP_top (r := r) (s := s) (τ := mSt σ r s (nI v) x y z) (D := bs.length) (q := 40 * r + p) (u := nI x')
      exact ⟨by rw [mo _ _ (by omega), mSt_old _ _ _ _ _ _ _ _ _ (by omega)]; exact c1, t1, t2⟩
    · obtain ⟨c1, c2, c3⟩ := hMB k (by rw [List.length_cons]; omega)
      rw [nth_old (by omega)] at c1 c2 c3
      rw [nth_old (by omega)]
      exact ⟨by rw [mo _ _ (by omega), mSt_old _ _ _ _ _ _ _ _ _ (by omega)]; exact c1, by rw [mStP_lo (by omega), mSt_old _ _ _ _ _ _ _ _ _ (by omega)]; exact c2, by rw [mStP_lo (by omega), mSt_old _ _ _ _ _ _ _ _ _ (by omega)]; exact c3⟩
  · refine CTX_part hCT (fun i hi => ⟨?_, fun hne => ?_, ?_⟩) hwo hwp ?_ ?_
    · show mA _ 0 (40 * r + i) = mA σ 0 (40 * r + i)
      rw [mo _ _ (by omega)]; exact mSt_i _ _ _ _ _ _ _ (by omega) (by omega)
    · rw [upN_n, if_neg hne, upP_n, if_neg (by omega)]
    · show pE (upP P r s (gN w)) r i = _
      rw [upP_e, if_neg (by omega)]
    · rw [upN_n, if_pos rfl]
    · show (mA _ 0 (40 * r + s) = 2 ∧ _) ∨ (mA _ 0 (40 * r + s) = 3 ∧ _)
      rw [mo _ _ (by omega), k0]
      rcases hx' with ⟨rfl, z1, z2⟩ | ⟨rfl, z2⟩
      · exact Or.inl ⟨rfl, z1, z2⟩
      · exact Or.inr ⟨rfl, z2⟩
theorem RT_end_of {q : Nat} (hS : SK g w) (hr : r < 4) (h : RT g P O w (mA σ) r s ((o, p, xx) :: bs)) (hs : s < 40) (ht : fT 0 x y z = 1) (hF : SFr g O r w W)
    (hq : gR w 322 (aRt g r) = some q) (eI : ∀ c a, a < gN w + 1 → ¬ (c = 454 ∧ a = pQ P r o) → ¬ (c = 324 ∧ a = aRt g r) → gI W c a = gI (apW g w r s (nI 0) x y z) c a) (eR : ∀ c a, a < gN w + 1 → ¬ (c = 455 ∧ a = pQ P r p) → ¬ (c = 66 ∧ a = q) → ¬ (c = 322 ∧ a = aRt g r) → gR W c a = gR (apW g w r s (nI 0) x y z) c a)
    (r455 : gR W 455 (pQ P r p) = some (gN w)) (i454 : gI W 454 (pQ P r o) = nI s) (r322 : gR W 322 (aRt g r) = gR w 65 q) (i324 : gI W 324 (aRt g r) = nI bs.length) (hobn : gOb g W (gN w) 7) (eP : ∀ a i, gP W a i = gP (apW g w r s (nI 0) x y z) a i) :
    RT g (upE (upN (upP P r s (gN w)) r p s) r o s) (upO O (gN w) (4 + (40 * r + s))) W (mA (mStE (mStP (mSt σ r s (nI 0) x y z) r s bs.length (40 * r + p) (nI xx)) r s bs.length (40 * r + o))) r (s + 1) bs := by
  have hB0 : eB g ≤ gN w := by have := hS.1; omega
  have hrt := rt_lt hS hr
  obtain ⟨⟨p1, p2, p3, p4, p5, p6, p7⟩, hOw, h7, hBC, hMB, hCT⟩ := id h
  obtain ⟨hl, hb⟩ := RT_len h
  obtain ⟨b1, b2, b3, b4⟩ := hb (o, p, xx) List.mem_cons_self
  have b1' : o ≤ p := b1
  have b2' : p < s := b2
  rw [List.length_cons] at h7 hl
  obtain ⟨n1, n2, n3, n4, n5, n6, n7⟩ := apI_new (g := g) (w := w) (r := r) (s := s) (v := nI 0) (x := x) (y := y) (z := z)
  obtain ⟨k0, k1, k2, k3⟩ := mSt_0 σ r s (nI 0) x y z
  obtain ⟨q', e0, o1, o2, o3, o4, o5, o6, o7⟩ := id hBC
  have eqq : q = q' := Option.some.inj (hq.symm.trans e0)
  subst eqq
  have hqn := o1.2.1
  have hpn := (p5 p b2').2.1.2.1
  have hon := (p5 o (by omega)).2.1.2.1
  have hnr : ¬ gN w = aRt g r := by omega
  have mo : ∀ j i, j ≤ 3 ∨ (j = 4 ∧ ¬ i = 40 * r + o) ∨ j = 6 ∨ (j = 5 ∧ ¬ i = 40 * r + p) ∨ j = 8 ∨ ((j = 9 ∨ j = 10) ∧ ¬ i = 6 * r + bs.length) → mA (mStE (mStP (mSt σ r s (nI 0) x y z) r s bs.length (40 * r + p) (nI xx)) r s bs.length (40 * r + o)) j i = mA (mSt σ r s (nI 0) x y z) j i := fun j i hj => by rw [mStE_lo (by omega), mStP_lo (by omega)]
  obtain ⟨t4, t7⟩ := mStE_at (r := r) (s := s) (τ := mStP (mSt σ r s (nI 0) x y z) r s bs.length (40 * r + p) (nI xx)) (D := bs.length) (q := 40 * r + o)
  have t5 : mA (mStE (mStP (mSt σ r s (nI 0) x y z) r s bs.length (40 * r + p) (nI xx)) r s bs.length (40 * r + o)) 5 (40 * r + p) = nI (40 * r + s) := by rw [mStE_lo (by omega)]; exact mStP_5
  have hQs : ∀ i, pQ (upE (upN (upP P r s (gN w)) r p s) r o s) r i = if i = s then gN w else pQ P r i := fun i => upP_q
  have hNs : ∀ i, pN (upE (upN (upP P r s (gN w)) r p s) r o s) r i = if i = p then some s else if i = s then none else pN P r i := fun i => by
    show pN (upN (upP P r s (gN w)) r p s) r i = _
    rw [upN_n, upP_n]
  have hEs : ∀ i, pE (upE (upN (upP P r s (gN w)) r p s) r o s) r i = if i = o then s else if i = s then s else pE P r i := fun i => by
    rw [upE_e]
    show (if i = o then s else pE (upP P r s (gN w)) r i) = _
    rw [upP_e]
  refine ⟨PR1_app h.1 hs hF hQs (by rw [eI _ _ (by omega) (by omega) (by omega)]; exact apI_used) (by rw [i324, t7]) (fun i => by rw [eP]; exact apP) hobn ⟨by rw [eI _ _ (by omega) (by omega) (by omega), n1, mo _ _ (by omega), k0], by rw [eI _ _ (by omega) (by omega) (by omega), n2, mo _ _ (by omega), k1], by rw [eI _ _ (by omega) (by omega) (by omega), n3, mo _ _ (by omega), k2], by rw [eI _ _ (by omega) (by omega) (by omega), n4, mo _ _ (by omega), k3], by rw [eI _ _ (by omega) (by omega) (by omega), n5], by rw [eI _ _ (by omega) (by omega) (by omega), n6]⟩ (fun i hi => ⟨?_, ?_⟩) (fun j i hj hi => by rw [mo _ _ (by omega)]; exact mSt_i _ _ _ _ _ _ _ (by omega) (by omega)) (by rw [mo _ _ (by omega)]; exact mSt_6 _ _ _ _ _ _ _) (told_arg (v := 0) (by decide) ht (by rw [mo _ _ (by omega), k0]) (by rw [mo _ _ (by omega), k1]) (by rw [mo _ _ (by omega), k2]) (by rw [mo _ _ (by omega), k3])) (fun i j hi hj => ?_) (fun i hi => ?_), fun i hi => ?_, t7, ?_, fun k hk => ?_, ?_⟩
  · rw [hQs, hEs]
    by_cases e : i = s
    · rw [if_pos e, if_neg (by omega), if_pos e, eI _ _ (by omega) (by omega) (by omega)]; exact n7
    · obtain ⟨q1, q2, q3, q4, q5, q6, q7, q8, q9, -⟩ := p5 i (by omega)
      have hqq := q2.2.1
      rw [if_neg e, if_neg e]
      by_cases e2 : i = o
      · rw [if_pos e2, e2]; exact i454
      · rw [if_neg e2, eI _ _ (by omega) (fun q => pQ_inj h (by omega) (by omega) e2 q.2) (by omega), apI_old hqq (by omega)]; exact q9
  · rw [hQs, hNs]
    by_cases e : i = s
    · rw [if_pos e, if_neg (by omega), if_pos e, eR _ _ (by omega) (by omega) (by omega) (by omega)]; exact apR_new
    · obtain ⟨q1, q2, q3, q4, q5, q6, q7, q8, q9, q10, q11⟩ := p5 i (by omega)
      have hqq := q2.2.1
      rw [if_neg e, if_neg e]
      by_cases e2 : i = p
      · rw [if_pos e2, e2, r455]
        show some (gN w) = some (pQ (upE (upN (upP P r s (gN w)) r p s) r o s) r s)
        rw [hQs, if_pos rfl]
      · rw [if_neg e2, eR _ _ (by omega) (fun q => pQ_inj h (by omega) b2' e2 q.2) (by omega) (by omega), apR_old hqq]
        refine q10.trans (map_same (fun j hj => ?_)).symm
        rw [hQs, if_neg (by have := (p6 i j (by omega) hj).1; omega)]
  · rw [hNs] at hj
    by_cases e2 : i = p
    · rw [if_pos e2] at hj
      have : s = j := Option.some.inj hj
      subst this
      rw [e2]
      exact ⟨by omega, t5⟩
    · rw [if_neg e2] at hj
      by_cases e : i = s
      · rw [if_pos e] at hj; cases hj
      · rw [if_neg e] at hj
        obtain ⟨y1, y2⟩ := p6 i j (by omega) hj
        exact ⟨by omega, by rw [mo _ _ (by omega), mSt_old _ _ _ _ _ _ _ _ _ (by omega)]; exact y2⟩
  · rw [hEs]
    by_cases e2 : i = o
    · rw [if_pos e2, e2]; exact ⟨by omega, fun _ => t4⟩
    · rw [if_neg e2]
      by_cases e : i = s
      · rw [if_pos e]; exact ⟨by omega, fun q => absurd e.symm q⟩
      · obtain ⟨y1, y2⟩ := p7 i (by omega)
        rw [if_neg e, mo _ _ (by omega), mSt_old _ _ _ _ _ _ _ _ _ (by omega)]
        exact ⟨by omega, y2⟩
  · rw [hQs]
    by_cases e : i = s
    · rw [if_pos e, upO_at, e]
    · rw [if_neg e, upO_ne (Nat.ne_of_lt (p5 i (by omega)).2.1.2.1)]; exact hOw i (by omega)
  · rw [r322]
    refine BC_keep (B := q) (fun a ha => upO_ne (Nat.ne_of_lt ha)) (fun a k ha => hF.ob ha) (fun a haq ha => ⟨by rw [eI _ _ (by omega) (by omega) (by omega), apI_old ha (by omega)], by rw [eR _ _ (by omega) (by omega) (by omega) (by omega), apR_old ha], by rw [eR _ _ (by omega) (by omega) (by omega) (by omega), apR_old ha], by rw [eR _ _ (by omega) (by omega) (by omega) (by omega), apR_old ha]⟩) bs _ (fun b hbb => new_keep h b (List.mem_cons_of_mem _ hbb)) o6 o7
  · obtain ⟨c1, c2, c3⟩ := hMB k (by rw [List.length_cons]; omega)
    rw [nth_old hk] at c1 c2 c3
    exact ⟨by rw [mo _ _ (by omega), mSt_old _ _ _ _ _ _ _ _ _ (by omega)]; exact c1, by rw [mo _ _ (by omega), mSt_old _ _ _ _ _ _ _ _ _ (by omega)]; exact c2, by rw [mo _ _ (by omega), mSt_old _ _ _ _ _ _ _ _ _ (by omega)]; exact c3⟩
  · refine CTX_close hCT (fun i hi => ⟨?_, fun hne => ?_, fun hne => ?_⟩) ?_ ?_ ?_ ?_
    · show mA _ 0 (40 * r + i) = mA σ 0 (40 * r + i)
      rw [mo _ _ (by omega)]; exact mSt_i _ _ _ _ _ _ _ (by omega) (by omega)
    · rw [hNs, if_neg hne, if_neg (by omega)]
    · rw [hEs, if_neg hne, if_neg (by omega)]
    · rw [hNs, if_pos rfl]
    · rw [hEs, if_pos rfl]
    · show mA _ 0 (40 * r + s) = 0
      rw [mo _ _ (by omega), k0]; rfl
    · rw [hNs, if_neg (by omega), if_pos rfl]
end RTP
