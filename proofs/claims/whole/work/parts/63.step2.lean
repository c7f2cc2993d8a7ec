def upO (O : Nat → Nat) (n k : Nat) : Nat → Nat := fun a => if a = n then k else O a
theorem upO_at {O : Nat → Nat} {n k : Nat} : upO O n k n = k := by unfold upO; rw [if_pos rfl]
theorem upO_ne {O : Nat → Nat} {n k a : Nat} (h : ¬ a = n) : upO O n k a = O a := by unfold upO; rw [if_neg h]
theorem map_same {x : Option Nat} {f f' : Nat → Nat} (h : ∀ j, x = some j → f' j = f j) : x.map f' = x.map f := by
  cases x with
  | none => rfl
  | some j => show some (f' j) = some (f j); rw [h j rfl]
theorem rt_lt {g : GE} {w : GW} (hS : SK g w) {r : Nat} (hr : r < 4) : aRt g r < gN w := (hS.rt hr).1.2.1
/-- what stands of a step in the class, when it is behind the s that are there -/
theorem new_keep {g : GE} {P : PG} {O : Nat → Nat} {w : GW} {A : Nat → Nat → Int32} {r s : Nat} {bs : List (Nat × Nat × Nat)} (h : RT g P O w A r s bs) : ∀ b ∈ bs, pQ (upP P r s (gN w)) r b.1 = pQ P r b.1 ∧ pQ (upP P r s (gN w)) r b.2.1 = pQ P r b.2.1 := by
  intro b hb
  obtain ⟨a1, a2, -⟩ := (RT_len h).2 b hb
  rw [upP_q, upP_q, if_neg (by omega), if_neg (by omega)]
  exact ⟨rfl, rfl⟩
section RTS
variable {g : GE} {P : PG} {O : Nat → Nat} {w : GW} {σ : MW} {r s v : Nat} {x y z : Int32}
theorem own_step {bs : List (Nat × Nat × Nat)} (h : RT g P O w (mA σ) r s bs) {i : Nat} (hi : i < s) : own O r (pQ P r i) := Or.inr ⟨i, by have := h.1.1; omega, h.2.1 i hi⟩
theorem RT_plain {bs : List (Nat × Nat × Nat)} (hS : SK g w) (hr : r < 4) (h : RT g P O w (mA σ) r s bs) (hs : s < 40) (hv : v < 25) (ht : fT v x y z = 1) (hp : ¬ v = 0 ∧ ¬ v = 1 ∧ ¬ v = 2 ∧ ¬ v = 3 ∧ ¬ v = 4 ∧ ¬ v = 11) (h5 : v = 5 → ∃ b ∈ bs, mA σ 0 (40 * r + b.1) = 4) (h8 : v = 8 ∨ v = 9 ∨ v = 10 → ∃ b ∈ bs, mA σ 0 (40 * r + b.2.1) = 2) :
    RT g (upP P r s (gN w)) (upO O (gN w) (4 + (40 * r + s))) (apW g w r s (nI v) x y z) (mA (mSt σ r s (nI v) x y z)) r (s + 1) bs := by
  have hB0 : eB g ≤ gN w := by have := hS.1; omega
  have hrt := rt_lt hS hr
  obtain ⟨⟨p1, p2, p3, p4, p5, p6, p7⟩, hOw, h7, hBC, hMB, hCT⟩ := id h
  obtain ⟨n1, n2, n3, n4, n5, n6, n7⟩ := apI_new (g := g) (w := w) (r := r) (s := s) (v := nI v) (x := x) (y := y) (z := z)
  obtain ⟨k0, k1, k2, k3⟩ := mSt_0 σ r s (nI v) x y z
  refine ⟨PR1_app h.1 hs (SFr_ap g O w r s (nI v) x y z) (fun i => upP_q) apI_used ?_ (fun i => apP) (ap_ob hB0) ⟨by rw [n1, k0], by rw [n2, k1], by rw [n3, k2], by rw [n4, k3], n5, n6⟩ (fun i hi => ?_) (fun j i hj hi => mSt_i _ _ _ _ _ _ _ (by omega) (by omega)) (mSt_6 _ _ _ _ _ _ _) (told_arg hv ht k0 k1 k2 k3) (fun i j hi hj => ?_) (fun i hi => ?_), fun i hi => ?_, ?_, ?_, fun k hk => ?_, ?_⟩
  · rw [apI_old hrt (by omega), mSt_old _ _ _ _ _ _ _ _ _ (by omega)]; exact p4
  · by_cases e : i = s
    · subst e
      rw [upP_q, upP_e, upP_n, if_pos rfl, if_pos rfl, if_pos rfl]
      exact ⟨n7, apR_new⟩
    · obtain ⟨q1, q2, q3, q4, q5, q6, q7, q8, q9, q10, q11⟩ := p5 i (by omega)
      rw [upP_q, upP_e, upP_n, if_neg e, if_neg e, if_neg e, apI_old q2.2.1 (by omega), apR_old q2.2.1]
      refine ⟨q9, q10.trans (map_same (fun j hj => ?_)).symm⟩
      rw [upP_q, if_neg (by have := (p6 i j (by omega) hj).1; omega)]
  · by_cases e : i = s
    · subst e; rw [upP_n, if_pos rfl] at hj; cases hj
    · rw [upP_n, if_neg e] at hj
      obtain ⟨y1, y2⟩ := p6 i j (by omega) hj
      exact ⟨by omega, by rw [mSt_old _ _ _ _ _ _ _ _ _ (by omega)]; exact y2⟩
  · by_cases e : i = s
    · subst e; rw [upP_e, if_pos rfl]; exact ⟨by omega, fun q => absurd rfl q⟩
    · obtain ⟨y1, y2⟩ := p7 i (by omega)
      rw [upP_e, if_neg e, mSt_old _ _ _ _ _ _ _ _ _ (by omega)]
      exact ⟨by omega, y2⟩
  · by_cases e : i = s
    · subst e; rw [upP_q, if_pos rfl, upO_at]
    · rw [upP_q, if_neg e, upO_ne (Nat.ne_of_lt (p5 i (by omega)).2.1.2.1)]; exact hOw i (by omega)
  · rw [mSt_old _ _ _ _ _ _ _ _ _ (by omega)]; exact h7
  · rw [apR_old hrt]
    refine BC_keep (B := gN w) (fun a ha => upO_ne (Nat.ne_of_lt ha)) (fun a k ha => ap_keep ha) (fun a _ ha => ⟨apI_old ha (by omega), apR_old ha, apR_old ha, apR_old ha⟩) bs _ (new_keep h) (fun q hq => ?_) hBC
    cases bs with
    | nil => rw [hq] at hBC; exact absurd hBC (by simp [BC])
    | cons b bs =>
      obtain ⟨o, p, xx⟩ := b
      obtain ⟨q', hq', ho, -⟩ := hBC
      rw [hq] at hq'
      have e : q = q' := Option.some.inj hq'
      subst e
      exact ho.2.1
  · rw [mSt_old _ _ _ _ _ _ _ _ _ (by omega), mSt_old _ _ _ _ _ _ _ _ _ (by omega), mSt_old _ _ _ _ _ _ _ _ _ (by omega)]; exact hMB k hk
  · have NE : ∀ n, n < 25 → (nI v = nI n ↔ v = n) := fun n hn => nI_eq (by omega) (by omega)
    refine CTX_plain hCT (fun i hi => ⟨mSt_i _ _ _ _ _ _ _ (by omega) (by omega), by rw [upP_n, if_neg (by omega)], by rw [upP_e, if_neg (by omega)]⟩) ?_ ?_ (by rw [upP_e, if_pos rfl]) ?_ ?_
    · show ¬ isOpn (mA (mSt σ r s (nI v) x y z) 0 (40 * r + s))
      rw [k0]
      rintro (q | q | q)
      · exact hp.2.1 ((NE 1 (by omega)).mp q)
      · exact hp.2.2.2.2.1 ((NE 4 (by omega)).mp q)
      · exact hp.2.2.2.2.2 ((NE 11 (by omega)).mp q)
    · show ¬ isPrt (mA (mSt σ r s (nI v) x y z) 0 (40 * r + s))
      rw [k0]
      rintro (q | q | q)
      · exact hp.1 ((NE 0 (by omega)).mp q)
      · exact hp.2.2.1 ((NE 2 (by omega)).mp q)
      · exact hp.2.2.2.1 ((NE 3 (by omega)).mp q)
    · show mA (mSt σ r s (nI v) x y z) 0 (40 * r + s) = 5 → _
      rw [k0]
      exact fun q => h5 ((NE 5 (by omega)).mp q)
    · show (mA (mSt σ r s (nI v) x y z) 0 (40 * r + s) = 8 ∨ mA (mSt σ r s (nI v) x y z) 0 (40 * r + s) = 9 ∨ mA (mSt σ r s (nI v) x y z) 0 (40 * r + s) = 10) → _
      rw [k0]
      exact fun q => h8 (q.imp (NE 8 (by omega)).mp (fun q => q.imp (NE 9 (by omega)).mp (NE 10 (by omega)).mp))
/-! a block opens -/
theorem opI_old {w1 : GW} {rt n c a : Nat} {a0 : Option Nat} (ha : a < gN w1) (h : ¬ (c = 324 ∧ a = rt)) : gI (opW w1 rt n a0) c a = gI w1 c a := by
  unfold opW
  rw [gI_setI, up2_ne _ _ h]
  show nul2 (gI w1) (gN w1) 0 c a = _
  rw [nul2, if_neg (by omega)]
theorem opI_open {w1 : GW} {rt n : Nat} {a0 : Option Nat} : gI (opW w1 rt n a0) 324 rt = gI w1 324 rt + 1 := by
  unfold opW
  rw [gI_setI, up2_at]
theorem opI_new {w1 : GW} {rt n : Nat} {a0 : Option Nat} (h : rt < gN w1) : gI (opW w1 rt n a0) 67 (gN w1) = 0 := by
  unfold opW
  rw [gI_setI, up2_ne _ _ (by omega)]
  show nul2 (gI w1) (gN w1) 0 67 (gN w1) = _
  rw [nul2, if_pos rfl]
theorem opR_old {w1 : GW} {rt n c a : Nat} {a0 : Option Nat} (ha : a < gN w1) (h : ¬ (c = 322 ∧ a = rt)) : gR (opW w1 rt n a0) c a = gR w1 c a := by
  unfold opW
  rw [gR_setI, gR_setR, up2_ne _ _ h, gR_setR, up2_ne _ _ (by omega), gR_setR, up2_ne _ _ (by omega), gR_setR, up2_ne _ _ (by omega), gR_newO, nul2, if_neg (by omega)]
theorem opR_new {w1 : GW} {rt n : Nat} {a0 : Option Nat} (h : rt < gN w1) : gR (opW w1 rt n a0) 322 rt = some (gN w1) ∧ gR (opW w1 rt n a0) 64 (gN w1) = some n ∧ gR (opW w1 rt n a0) 65 (gN w1) = a0 ∧ gR (opW w1 rt n a0) 66 (gN w1) = some n := by
  unfold opW
  refine ⟨?_, ?_, ?_, ?_⟩
  · rw [gR_setI, gR_setR, up2_at]
  · rw [gR_setI, gR_setR, up2_ne _ _ (by omega), gR_setR, up2_ne _ _ (by omega), gR_setR, up2_ne _ _ (by omega), gR_setR, up2_at]
  · rw [gR_setI, gR_setR, up2_ne _ _ (by omega), gR_setR, up2_ne _ _ (by omega), gR_setR, up2_at]
  · rw [gR_setI, gR_setR, up2_ne _ _ (by omega), gR_setR, up2_at]
theorem SFr_op {w1 : GW} {n : Nat} {a0 : Option Nat} (h : SFr g O r w w1) : SFr g O r w (opW w1 (aRt g r) n a0) := by
  unfold opW
  exact (((((h.N 1 4).R 64 _ _ (Or.inl h.1)).R 65 _ _ (Or.inl h.1)).R 66 _ _ (Or.inl h.1)).R 322 _ _ (Or.inr ⟨by omega, Or.inl rfl⟩)).I 324 _ _ (Or.inr ⟨by omega, Or.inl rfl⟩)
theorem RT_open_of {bs : List (Nat × Nat × Nat)} {W : GW} (hS : SK g w) (hr : r < 4) (h : RT g P O w (mA σ) r s bs) (hs : s < 40) (hv : v < 25) (ht : fT v x y z = 1) (hp : v = 1 ∨ v = 4 ∨ v = 11) (hl6 : bs.length < 6) (hF : SFr g O r w W)
    (eI : ∀ c a, a < gN w + 1 → ¬ (c = 324 ∧ a = aRt g r) → gI W c a = gI (apW g w r s (nI v) x y z) c a) (eR : ∀ c a, a < gN w + 1 → ¬ (c = 322 ∧ a = aRt g r) → gR W c a = gR (apW g w r s (nI v) x y z) c a)
    (r1 : gR W 322 (aRt g r) = some (gN w + 1)) (r2 : gR W 64 (gN w + 1) = some (gN w)) (r3 : gR W 65 (gN w + 1) = gR w 322 (aRt g r)) (r4 : gR W 66 (gN w + 1) = some (gN w)) (i67 : gI W 67 (gN w + 1) = 0) (i324 : gI W 324 (aRt g r) = gI (apW g w r s (nI v) x y z) 324 (aRt g r) + 1)
    (hob1 : gOb g W (gN w + 1) 1) (hobn : gOb g W (gN w) 7) (eP : ∀ a i, gP W a i = gP (apW g w r s (nI v) x y z) a i) :
    RT g (upP P r s (gN w)) (upO (upO O (gN w) (4 + (40 * r + s))) (gN w + 1) r) W (mA (mStO (mSt σ r s (nI v) x y z) r s bs.length)) r (s + 1) ((s, s, 0) :: bs) := by
  have hB0 : eB g ≤ gN w := by have := hS.1; omega
  have hrt := rt_lt hS hr
  obtain ⟨⟨p1, p2, p3, p4, p5, p6, p7⟩, hOw, h7, hBC, hMB, hCT⟩ := id h
  obtain ⟨n1, n2, n3, n4, n5, n6, n7⟩ := apI_new (g := g) (w := w) (r := r) (s := s) (v := nI v) (x := x) (y := y) (z := z)
  obtain ⟨k0, k1, k2, k3⟩ := mSt_0 σ r s (nI v) x y z
  have m7 : mA (mStO (mSt σ r s (nI v) x y z) r s bs.length) 7 r = nI (bs.length + 1) := by unfold mStO; rw [mA_sA, if_pos ⟨rfl, rfl⟩]
  have mo : ∀ j i, j ≤ 6 → mA (mStO (mSt σ r s (nI v) x y z) r s bs.length) j i = mA (mSt σ r s (nI v) x y z) j i := fun j i hj => by unfold mStO; rw [mA_sA, if_neg (by omega), mA_sA, if_neg (by omega), mA_sA, if_neg (by omega), mA_sA, if_neg (by omega)]
  have mk : ∀ j k, 8 ≤ j → j ≤ 10 → ¬ k = bs.length → mA (mStO (mSt σ r s (nI v) x y z) r s bs.length) j (6 * r + k) = mA σ j (6 * r + k) := fun j k h1 h2 hk => by unfold mStO; rw [mA_sA, if_neg (by omega), mA_sA, if_neg (by omega), mA_sA, if_neg (by omega), mA_sA, if_neg (by omega), mSt_old _ _ _ _ _ _ _ _ _ (by omega)]
  refine ⟨PR1_app h.1 hs hF (fun i => upP_q) (by rw [eI _ _ (by omega) (by omega)]; exact apI_used) ?_ (fun i => by rw [eP]; exact apP) hobn ⟨by rw [eI _ _ (by omega) (by omega), n1, mo _ _ (by omega), k0], by rw [eI _ _ (by omega) (by omega), n2, mo _ _ (by omega), k1], by rw [eI _ _ (by omega) (by omega), n3, mo _ _ (by omega), k2], by rw [eI _ _ (by omega) (by omega), n4, mo _ _ (by omega), k3], by rw [eI _ _ (by omega) (by omega), n5], by rw [eI _ _ (by omega) (by omega), n6]⟩ (fun i hi => ?_) (fun j i hj hi => by rw [mo _ _ (by omega)]; exact mSt_i _ _ _ _ _ _ _ (by omega) (by omega)) (by rw [mo _ _ (by omega)]; exact mSt_6 _ _ _ _ _ _ _) (told_arg hv ht (by rw [mo _ _ (by omega), k0]) (by rw [mo _ _ (by omega), k1]) (by rw [mo _ _ (by omega), k2]) (by rw [mo _ _ (by omega), k3])) (fun i j hi hj => ?_) (fun i hi => ?_), fun i hi => ?_, ?_, ?_, fun k hk => ?_, ?_⟩
  · rw [i324, apI_old hrt (by omega), p4, h7, m7]; exact nI_1 _
  · by_cases e : i = s
    · subst e
      rw [upP_q, upP_e, upP_n, if_pos rfl, if_pos rfl, if_pos rfl, eI _ _ (by omega) (by omega), eR _ _ (by omega) (by omega)]
      exact ⟨n7, apR_new⟩
    · obtain ⟨q1, q2, q3, q4, q5, q6, q7, q8, q9, q10, q11⟩ := p5 i (by omega)
      have hq := q2.2.1
      rw [upP_q, upP_e, upP_n, if_neg e, if_neg e, if_neg e, eI _ _ (by omega) (by omega), eR _ _ (by omega) (by omega), apI_old hq (by omega), apR_old hq]
      refine ⟨q9, q10.trans (map_same (fun j hj => ?_)).symm⟩
      rw [upP_q, if_neg (by have := (p6 i j (by omega) hj).1; omega)]
  · by_cases e : i = s
    · subst e; rw [upP_n, if_pos rfl] at hj; cases hj
    · rw [upP_n, if_neg e] at hj
      obtain ⟨y1, y2⟩ := p6 i j (by omega) hj
      exact ⟨by omega, by rw [mo _ _ (by omega), mSt_old _ _ _ _ _ _ _ _ _ (by omega)]; exact y2⟩
  · by_cases e : i = s
    · subst e; rw [upP_e, if_pos rfl]; exact ⟨by omega, fun q => absurd rfl q⟩
    · obtain ⟨y1, y2⟩ := p7 i (by omega)
      rw [upP_e, if_neg e, mo _ _ (by omega), mSt_old _ _ _ _ _ _ _ _ _ (by omega)]
      exact ⟨by omega, y2⟩
  · by_cases e : i = s
    · subst e; rw [upP_q, if_pos rfl, upO_ne (by omega), upO_at]
    · have hq := (p5 i (by omega)).2.1.2.1
      rw [upP_q, if_neg e, upO_ne (by omega), upO_ne (Nat.ne_of_lt hq)]; exact hOw i (by omega)
  · rw [m7, List.length_cons]
  · have hlt : ∀ q, gR w 322 (aRt g r) = some q → q < gN w := fun q hq => by
      cases bs with
      | nil => rw [hq] at hBC; exact absurd hBC (by simp [BC])
      | cons b bs =>
        obtain ⟨o, p, xx⟩ := b
        obtain ⟨q', hq', ho, -⟩ := hBC
        rw [hq] at hq'
        have e : q = q' := Option.some.inj hq'
        subst e
        exact ho.2.1
    rw [r1]
    refine ⟨gN w + 1, rfl, hob1, upO_at, by rw [r2, upP_q, if_pos rfl], by rw [r4, upP_q, if_pos rfl], i67, fun q' hq' => by rw [r3] at hq'; have := hlt q' hq'; omega, ?_⟩
    rw [r3]
    refine BC_keep (B := gN w) (fun a ha => by rw [upO_ne (by omega), upO_ne (Nat.ne_of_lt ha)]) (fun a k ha => hF.ob ha) (fun a _ ha => ⟨by rw [eI _ _ (by omega) (by omega), apI_old ha (by omega)], by rw [eR _ _ (by omega) (by omega), apR_old ha], by rw [eR _ _ (by omega) (by omega), apR_old ha], by rw [eR _ _ (by omega) (by omega), apR_old ha]⟩) bs _ (new_keep h) hlt hBC
  · rw [List.length_cons] at hk
    by_cases e : k = bs.length
    · subst e
      rw [nth_top]
      unfold mStO
      refine ⟨?_, ?_, ?_⟩
      · rw [mA_sA, if_neg (by omega), mA_sA, if_neg (by omega), mA_sA, if_neg (by omega), mA_sA, if_pos ⟨rfl, rfl⟩]
      · rw [mA_sA, if_neg (by omega), mA_sA, if_neg (by omega), mA_sA, if_pos ⟨rfl, rfl⟩]
      · rw [mA_sA, if_neg (by omega), mA_sA, if_pos ⟨rfl, rfl⟩]; rfl
    · rw [nth_old (by omega), mk _ _ (by omega) (by omega) e, mk _ _ (by omega) (by omega) e, mk _ _ (by omega) (by omega) e]
      exact hMB k (by omega)
  · refine CTX_open hCT hl6 (fun i hi => ⟨by show mA _ 0 (40 * r + i) = _; rw [mo _ _ (by omega)]; exact mSt_i _ _ _ _ _ _ _ (by omega) (by omega), by rw [upP_n, if_neg (by omega)], by rw [upP_e, if_neg (by omega)]⟩) ?_
    show isOpn (mA (mStO (mSt σ r s (nI v) x y z) r s bs.length) 0 (40 * r + s))
    rw [mo _ _ (by omega), k0]
    rcases hp with rfl | rfl | rfl
    · exact Or.inl rfl
    · exact Or.inr (Or.inl rfl)
    · exact Or.inr (Or.inr rfl)
theorem ob_op {w1 : GW} {rt n a k : Nat} {a0 : Option Nat} (h : gOb g (newO w1 1 4) a k) : gOb g (opW w1 rt n a0) a k := by
  refine ⟨h.1, ?_, ?_⟩
  · unfold opW; rw [gN_setI, gN_setR, gN_setR, gN_setR, gN_setR]; exact h.2.1
  · unfold opW; rw [gK_setI, gK_setR, gK_setR, gK_setR, gK_setR]; exact h.2.2
theorem op_P {w1 : GW} {rt n a i : Nat} {a0 : Option Nat} : gP (opW w1 rt n a0) a i = gP w1 a i := by
  unfold opW; rw [gP_setI, gP_setR, gP_setR, gP_setR, gP_setR, gP_newO]
theorem RT_open {bs : List (Nat × Nat × Nat)} (hS : SK g w) (hr : r < 4) (h : RT g P O w (mA σ) r s bs) (hs : s < 40) (hv : v < 25) (ht : fT v x y z = 1) (hp : v = 1 ∨ v = 4 ∨ v = 11) (hl6 : bs.length < 6) :
    RT g (upP P r s (gN w)) (upO (upO O (gN w) (4 + (40 * r + s))) (gN w + 1) r) (opW (apW g w r s (nI v) x y z) (aRt g r) (gN w) (gR w 322 (aRt g r))) (mA (mStO (mSt σ r s (nI v) x y z) r s bs.length)) r (s + 1) ((s, s, 0) :: bs) ∧ SFr g O r w (opW (apW g w r s (nI v) x y z) (aRt g r) (gN w) (gR w 322 (aRt g r))) := by
  have hB0 : eB g ≤ gN w := by have := hS.1; omega
  have hrt := rt_lt hS hr
  have hF1 := SFr_ap g O w r s (nI v) x y z
  have hF : SFr g O r w (opW (apW g w r s (nI v) x y z) (aRt g r) (gN w) (gR w 322 (aRt g r))) := SFr_op hF1
  refine ⟨?_, hF⟩
  have hrt1 : aRt g r < gN (apW g w r s (nI v) x y z) := by rw [apN]; omega
  have eI : ∀ c a, a < gN w + 1 → ¬ (c = 324 ∧ a = aRt g r) → gI (opW (apW g w r s (nI v) x y z) (aRt g r) (gN w) (gR w 322 (aRt g r))) c a = gI (apW g w r s (nI v) x y z) c a := fun c a ha hh => opI_old (by rw [apN]; exact ha) hh
  have eR : ∀ c a, a < gN w + 1 → ¬ (c = 322 ∧ a = aRt g r) → gR (opW (apW g w r s (nI v) x y z) (aRt g r) (gN w) (gR w 322 (aRt g r))) c a = gR (apW g w r s (nI v) x y z) c a := fun c a ha hh => opR_old (by rw [apN]; exact ha) hh
  obtain ⟨r1, r2, r3, r4⟩ := opR_new (w1 := apW g w r s (nI v) x y z) (rt := aRt g r) (n := gN w) (a0 := gR w 322 (aRt g r)) hrt1
  have i67 := opI_new (w1 := apW g w r s (nI v) x y z) (rt := aRt g r) (n := gN w) (a0 := gR w 322 (aRt g r)) hrt1
  have i324 := opI_open (w1 := apW g w r s (nI v) x y z) (rt := aRt g r) (n := gN w) (a0 := gR w 322 (aRt g r))
  rw [apN] at r1 r2 r3 r4 i67
  have hs1 : gOb g (newO (apW g w r s (nI v) x y z) 1 4) (gN w + 1) 1 := by rw [← apN (g := g) (w := w) (r := r) (s := s) (v := nI v) (x := x) (y := y) (z := z)]; exact gOb_selfO (by rw [apN]; omega)
  have hob1 := ob_op (rt := aRt g r) (n := gN w) (a0 := gR w 322 (aRt g r)) hs1
  have hobn := ob_op (rt := aRt g r) (n := gN w) (a0 := gR w 322 (aRt g r)) (gOb_newO (c := 1) (N := 4) (ap_ob (r := r) (s := s) (v := nI v) (x := x) (y := y) (z := z) hB0))
  have eP : ∀ a i, gP (opW (apW g w r s (nI v) x y z) (aRt g r) (gN w) (gR w 322 (aRt g r))) a i = gP (apW g w r s (nI v) x y z) a i := fun _ _ => op_P
  exact RT_open_of hS hr h hs hv ht hp hl6 hF eI eR r1 r2 r3 r4 i67 i324 hob1 hobn eP
end RTS
