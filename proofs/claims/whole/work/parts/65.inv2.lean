/-! ===== what holds between the calls ===== -/
def CN (g : GE) (w : GW) (σ : MW) : Prop := gI w 5 (eB g + 1) = mI σ 34 ∧ gI w 6 (eB g + 1) = mI σ 35 ∧ gI w 7 (eB g + 1) = mI σ 36 ∧ ((gR w 8 (eB g + 1) = none ∧ mI σ 23 = -1) ∨ ∃ f φ nf : Nat, nf ≤ 600 ∧ gR w 8 (eB g + 1) = some f ∧ mI σ 23 = nI φ ∧ FR g w (mA σ) nf f φ)
def GT (g : GE) : Prop := STt g ∧ eOL g 4 = 12 ∧ ∀ j, j < 12 → eOF g 4 j = aTab j
def INV (g : GE) (P : PG) (O : Nat → Nat) (w : GW) (σ : MW) : Prop := SK g w ∧ (∀ r, r < 4 → ∃ s bs, RT g P O w (mA σ) r s bs) ∧ DRL g w σ 200 ∧ CN g w σ ∧ (∀ j, j < 12 → mA σ 27 j = aTab j) ∧ ∃ r, r < 4 ∧ gR w 4 (eB g + 1) = some (aRt g r) ∧ mI σ 11 = nI r
theorem FR_keep {g : GE} {w w' : GW} {A A' : Nat → Nat → Int32} {nf f φ : Nat} (hN : nf ≤ 600) (hA : ∀ j i, 16 ≤ j → j ≤ 20 → A' j i = A j i) (hob : ∀ a k, gOb g w a k → gOb g w' a k) (hI : ∀ c, 192 ≤ c → c ≤ 197 → gI w' c f = gI w c f) (h : FR g w A nf f φ) : FR g w' A' nf f φ := by
  obtain ⟨ho, kd, m, h1, h2, h3, h4, h5, h6, h7, h8, h9, hc, h10, h11⟩ := h
  have hA' : ∀ j i, 16 ≤ j → j ≤ 20 → i < nf → A' j i = A j i := fun j i z1 z2 _ => hA j i z1 z2
  refine ⟨hob _ _ ho, kd, m, h1, h2, h3, by rw [hI _ (by omega) (by omega)]; exact h4, by rw [hA _ _ (by omega) (by omega)]; exact h5, by rw [hI _ (by omega) (by omega), hA _ _ (by omega) (by omega)]; exact h6, by rw [hI _ (by omega) (by omega), hA _ _ (by omega) (by omega)]; exact h7, by rw [hI _ (by omega) (by omega)]; exact h8, by rw [hA _ _ (by omega) (by omega)]; exact h9, mChain_same hN (Nat.le_refl _) hA' hc, ?_, ?_⟩
  · rw [hI _ (by omega) (by omega), mDown_same hN hA' hc m (Nat.le_refl _), hA _ _ (by omega) (by omega)]; exact h10
  · rw [hI _ (by omega) (by omega), mWt_same hN hA' hc m 0 (by omega)]; exact h11
/-- what a call of 'step' on routine r may change in the model -/
def MSF (σ τ : MW) (r : Nat) : Prop := mI τ = mI σ ∧ mD τ = mD σ ∧ (∀ j i, 11 ≤ j → mA τ j i = mA σ j i) ∧ ∀ r', ¬ r' = r → (∀ j i, j ≤ 5 → i < 40 → mA τ j (40 * r' + i) = mA σ j (40 * r' + i)) ∧ (mA τ 6 r' = mA σ 6 r' ∧ mA τ 7 r' = mA σ 7 r') ∧ (∀ j k, 8 ≤ j → j ≤ 10 → k < 6 → mA τ j (6 * r' + k) = mA σ j (6 * r' + k))
theorem MSF_refl (σ : MW) (r : Nat) : MSF σ σ r := ⟨rfl, rfl, fun _ _ _ => rfl, fun _ _ => ⟨fun _ _ _ _ => rfl, ⟨rfl, rfl⟩, fun _ _ _ _ _ => rfl⟩⟩
theorem MSF.A {σ τ : MW} {r : Nat} (h : MSF σ τ r) (j i : Nat) (x : Int32) (hj : (j ≤ 5 ∧ 40 * r ≤ i ∧ i < 40 * r + 40) ∨ ((j = 6 ∨ j = 7) ∧ i = r) ∨ (8 ≤ j ∧ j ≤ 10 ∧ 6 * r ≤ i ∧ i < 6 * r + 6)) : MSF σ (sA τ j i x) r := by
  obtain ⟨h1, h2, h3, h4⟩ := h
  refine ⟨h1, h2, fun j' i' hj' => by rw [mA_sA, if_neg (by omega)]; exact h3 j' i' hj', fun r' hr' => ?_⟩
  obtain ⟨k1, ⟨k2, k3⟩, k4⟩ := h4 r' hr'
  exact ⟨fun j' i' z1 z2 => by rw [mA_sA, if_neg (by omega)]; exact k1 j' i' z1 z2, ⟨by rw [mA_sA, if_neg (by omega)]; exact k2, by rw [mA_sA, if_neg (by omega)]; exact k3⟩, fun j' k z1 z2 z3 => by rw [mA_sA, if_neg (by omega)]; exact k4 j' k z1 z2 z3⟩
theorem MSF_st {σ : MW} {r s : Nat} {v a b c : Int32} (hs : s < 40) : MSF σ (mSt σ r s v a b c) r := (((((MSF_refl σ r).A 0 _ _ (by omega)).A 1 _ _ (by omega)).A 2 _ _ (by omega)).A 3 _ _ (by omega)).A 6 _ _ (by omega)
theorem MSF_O {σ τ : MW} {r s D : Nat} (hD : D < 6) (h : MSF σ τ r) : MSF σ (mStO τ r s D) r := (((h.A 8 _ _ (by omega)).A 9 _ _ (by omega)).A 10 _ _ (by omega)).A 7 _ _ (by omega)
theorem MSF_P {σ τ : MW} {r s D p : Nat} {x : Int32} (hD : D < 6) (hp : p < 40) (h : MSF σ τ r) : MSF σ (mStP τ r s D (40 * r + p) x) r := ((h.A 5 _ _ (by omega)).A 9 _ _ (by omega)).A 10 _ _ (by omega)
theorem MSF_E {σ τ : MW} {r s D o : Nat} (ho : o < 40) (h : MSF σ τ r) : MSF σ (mStE τ r s D (40 * r + o)) r := (h.A 4 _ _ (by omega)).A 7 _ _ (by omega)
theorem INV_step {g : GE} {P P' : PG} {O O' : Nat → Nat} {w W : GW} {σ τ : MW} {r : Nat} (h : INV g P O w σ) (hr : r < 4) (hF : SFr g O r w W) (hM : MSF σ τ r) (hO : ∀ a, a < gN w → O' a = O a) (hP : ∀ r', ¬ r' = r → pQ P' r' = pQ P r' ∧ pN P' r' = pN P r' ∧ pE P' r' = pE P r') (hRT : ∃ s bs, RT g P' O' W (mA τ) r s bs) : INV g P' O' W τ := by
  obtain ⟨hS, hR, hD, ⟨c1, c2, c3, c4⟩, hT, ra, ra1, ra2, ra3⟩ := h
  obtain ⟨m1, m2, m3, m4⟩ := hM
  obtain ⟨f1, f2, f3, f4, f5, f6, f7, f8, f9⟩ := id hF
  have o1 := (hS.ob 1 rfl).2.1
  have o68 := (hS.ob 68 rfl).2.1
  refine ⟨hF.sk hr hS, fun r' hr' => ?_, DRL_same (Nat.le_refl _) ⟨f4, f5, fun r' hr' => f7 _ _ (hS.row hr').1.2.1 (by omega) (by omega) (by omega) (by omega), f7 _ _ o68 (by omega) (by omega) (by omega) (by omega), m2, fun j i hj => m3 j i (by omega), by rw [m1]⟩ hD, ⟨?_, ?_, ?_, ?_⟩, fun j hj => by rw [m3 _ _ (by omega)]; exact hT j hj, ra, ra1, by rw [f8 _ _ o1 (by omega) (by omega) (by omega)]; exact ra2, by rw [m1]; exact ra3⟩
  · by_cases e : r' = r
    · subst e; exact hRT
    · obtain ⟨s', bs', hR'⟩ := hR r' hr'
      obtain ⟨y1, y2, y3⟩ := hP r' e
      obtain ⟨z1, z2, z3⟩ := m4 r' e
      exact ⟨s', bs', RT_other hS hr' e hF y1 y2 y3 hO z1 z2 z3 hr hR'⟩
  · rw [f7 _ _ o1 (by omega) (by omega) (by omega) (by omega), m1]; exact c1
  · rw [f7 _ _ o1 (by omega) (by omega) (by omega) (by omega), m1]; exact c2
  · rw [f7 _ _ o1 (by omega) (by omega) (by omega) (by omega), m1]; exact c3
  · rw [f8 _ _ o1 (by omega) (by omega) (by omega), m1]
    rcases c4 with c4 | ⟨f, φ, nf, d1, d2, d3, d4⟩
    · exact Or.inl c4
    · exact Or.inr ⟨f, φ, nf, d1, d2, d3, FR_keep d1 (fun j i z1 z2 => m3 j i (by omega)) (fun a k => hF.ob) (fun c z1 z2 => f7 c f d4.1.2.1 (by omega) (by omega) (by omega) (by omega)) d4⟩
/-! ===== the class's part of the world ===== -/
def CE (g : GE) (w w' : GW) : Prop := gN w' = gN w ∧ gK w' = gK w ∧ gL w' = gL w ∧ gR w' = gR w ∧ gP w' = gP w ∧ (∀ c a, c < 576 → gI w' c a = gI w c a) ∧ (∀ a i, a < eB g + 71 → gA w' a i = gA w a i) ∧ (∀ a i, a < eB g + 71 → gD w' a i = gD w a i)
theorem CE.ob {g : GE} {w w' : GW} (h : CE g w w') {a k : Nat} (ha : gOb g w a k) : gOb g w' a k := ⟨ha.1, by rw [h.1]; exact ha.2.1, by rw [h.2.1]; exact ha.2.2⟩
theorem CE.sk {g : GE} {w w' : GW} (h : CE g w w') (hS : SK g w) : SK g w' := by
  obtain ⟨a1, a2, a3, a4, a5, a6, a7, a8⟩ := h
  obtain ⟨s1, s2, s3, s4, s5, s6⟩ := hS
  refine ⟨by omega, fun i k hi => by rw [a2]; exact s2 i k hi, fun i n hi hk => by rw [a3]; exact s3 i n hi hk, fun e he => by rw [a4]; exact s4 e he, fun e he => by rw [a5]; exact s5 e he, fun e he => ?_⟩
  have h1 : e.1 = 320 ∨ e.1 = 384 := by
    have : ∀ e ∈ iTab, e.1 = 320 ∨ e.1 = 384 := by decide +kernel
    exact this e he
  rw [a6 _ _ (by omega)]; exact s6 e he
theorem CE.rt {g : GE} {w w' : GW} (h : CE g w w') {P : PG} {O : Nat → Nat} {A : Nat → Nat → Int32} {r s : Nat} {bs : List (Nat × Nat × Nat)} (hR : RT g P O w A r s bs) : RT g P O w' A r s bs := by
  obtain ⟨a1, a2, a3, a4, a5, a6, a7, a8⟩ := id h
  obtain ⟨⟨p1, p2, p3, p4, p5, p6, p7⟩, hOw, h7, hBC, hMB, hCT⟩ := hR
  refine ⟨⟨p1, by rw [a6 _ _ (by omega)]; exact p2, p3, by rw [a6 _ _ (by omega)]; exact p4, fun i hi => ?_, p6, p7⟩, hOw, h7, ?_, hMB, hCT⟩
  · obtain ⟨q1, q2, q3, q4, q5, q6, q7, q8, q9, q10, q11⟩ := p5 i hi
    refine ⟨by rw [a5]; exact q1, h.ob q2, ?_, ?_, ?_, ?_, ?_, ?_, ?_, by rw [a4]; exact q10, q11⟩
    · rw [a6 _ _ (by omega)]; exact q3
    · rw [a6 _ _ (by omega)]; exact q4
    · rw [a6 _ _ (by omega)]; exact q5
    · rw [a6 _ _ (by omega)]; exact q6
    · rw [a6 _ _ (by omega)]; exact q7
    · rw [a6 _ _ (by omega)]; exact q8
    · rw [a6 _ _ (by omega)]; exact q9
  · rw [a4]
    cases hb : gR w 322 (aRt g r) with
    | none => rw [hb] at hBC; exact BC_keep (B := 0) (fun _ _ => rfl) (fun a k => h.ob) (fun a ha => absurd ha (Nat.not_lt_zero _)) bs none (fun _ _ => ⟨rfl, rfl⟩) (fun q hq => by cases hq) hBC
    | some q0 => rw [hb] at hBC; exact BC_keep (B := q0 + 1) (fun _ _ => rfl) (fun a k => h.ob) (fun a _ _ => ⟨a6 _ _ (by omega), by rw [a4], by rw [a4], by rw [a4]⟩) bs (some q0) (fun _ _ => ⟨rfl, rfl⟩) (fun q hq => by cases hq; omega) hBC
theorem CE.inv {g : GE} {w w' : GW} (h : CE g w w') {P : PG} {O : Nat → Nat} {σ : MW} (hI : INV g P O w σ) : INV g P O w' σ := by
  obtain ⟨a1, a2, a3, a4, a5, a6, a7, a8⟩ := id h
  obtain ⟨hS, hR, ⟨hD, hRr, n, n1, n2, n3, n4⟩, ⟨c1, c2, c3, c4⟩, hT, ra, ra1, ra2, ra3⟩ := hI
  refine ⟨h.sk hS, fun r hr => ?_, ⟨?_, fun r hr => ?_, n, n1, by rw [a6 _ _ (by omega)]; exact n2, n3, fun i hi => by rw [a8 _ _ (by omega)]; exact n4 i hi⟩, ⟨by rw [a6 _ _ (by omega)]; exact c1, by rw [a6 _ _ (by omega)]; exact c2, by rw [a6 _ _ (by omega)]; exact c3, ?_⟩, hT, ra, ra1, by rw [a4]; exact ra2, ra3⟩
  · obtain ⟨s, bs, h1⟩ := hR r hr
    exact ⟨s, bs, h.rt h1⟩
  · exact RelD_same hD (fun i => a8 _ _ (by omega)) (fun _ => rfl)
  · exact RelR1_same (hRr r hr) (a6 _ _ (by omega)) (fun i _ => a8 _ _ (by unfold aRd; omega)) (fun i _ => a7 _ _ (by unfold aRz; omega)) (fun _ _ => rfl) rfl rfl (fun _ _ => rfl)
  · rw [a4]
    rcases c4 with c4 | ⟨f, φ, nf, d1, d2, d3, d4⟩
    · exact Or.inl c4
    · exact Or.inr ⟨f, φ, nf, d1, d2, d3, FR_keep d1 (fun _ _ _ _ => rfl) (fun a k => h.ob) (fun c z1 z2 => a6 _ _ (by omega)) d4⟩
theorem CE_put (g : GE) (τ : MW) (w : GW) : CE g w (put g τ w) := by
  refine ⟨rfl, rfl, rfl, rfl, rfl, fun c a hc => ?_, fun a i ha => ?_, fun a i ha => ?_⟩
  · show (if a = eB g + 70 then (if 576 ≤ c ∧ c < 616 then mI τ (c - 576) else gI w c a) else gI w c a) = _
    split
    · rw [if_neg (by omega)]
    · rfl
  · show (if eB g + 71 ≤ a ∧ a < eB g + 99 then _ else gA w a i) = _
    rw [if_neg (by omega)]
  · show (if eB g + 71 ≤ a ∧ a < eB g + 99 then _ else gD w a i) = _
    rw [if_neg (by omega)]
/-- the model's part of the world is σ -/
def MP (g : GE) (σ : MW) (w : GW) : Prop := (∀ f, f < 40 → gI w (576 + f) (eB g + 70) = mI σ f) ∧ (∀ j i, j < 28 → gA w (eB g + (71 + j)) i = mA σ j i) ∧ (∀ j i, j < 28 → gD w (eB g + (71 + j)) i = mD σ j i)
theorem MP_put (g : GE) (σ : MW) (w : GW) : MP g σ (put g σ w) := ⟨fun f hf => gI_put g σ w f hf, fun j i hj => gA_put g σ w j i hj, fun j i hj => gD_put g σ w j i hj⟩
theorem put_self {g : GE} {σ : MW} {w : GW} (h : MP g σ w) : put g σ w = w := by
  obtain ⟨h1, h2, h3⟩ := h
  refine Prod.ext rfl (Prod.ext rfl (Prod.ext rfl (Prod.ext ?_ (Prod.ext rfl (Prod.ext ?_ (Prod.ext ?_ rfl))))))
  · funext c a
    show (if a = eB g + 70 then (if 576 ≤ c ∧ c < 616 then mI σ (c - 576) else gI w c a) else gI w c a) = gI w c a
    split
    · rename_i ha
      subst ha
      split
      · rename_i hc
        have := h1 (c - 576) (by omega)
        rw [show 576 + (c - 576) = c by omega] at this
        exact this.symm
      · rfl
    · rfl
  · funext a i
    show (if eB g + 71 ≤ a ∧ a < eB g + 99 then mA σ (a - (eB g + 71)) i else gA w a i) = gA w a i
    split
    · have := h2 (a - (eB g + 71)) i (by omega)
      rw [show eB g + (71 + (a - (eB g + 71))) = a by omega] at this
      exact this.symm
    · rfl
  · funext a i
    show (if eB g + 71 ≤ a ∧ a < eB g + 99 then mD σ (a - (eB g + 71)) i else gD w a i) = gD w a i
    split
    · have := h3 (a - (eB g + 71)) i (by omega)
      rw [show eB g + (71 + (a - (eB g + 71))) = a by omega] at this
      exact this.symm
    · rfl
theorem MP_sfr {g : GE} {σ : MW} {O : Nat → Nat} {r : Nat} {w w' : GW} (hS : SK g w) (h : MP g σ w) (hF : SFr g O r w w') : MP g σ w' := by
  obtain ⟨h1, h2, h3⟩ := h
  obtain ⟨f1, f2, f3, f4, f5, f6, f7, f8, f9⟩ := hF
  have := hS.1
  exact ⟨fun f hf => by rw [f7 _ _ (by omega) (by omega) (by omega) (by omega) (by omega)]; exact h1 f hf, fun j i hj => by rw [f5]; exact h2 j i hj, fun j i hj => by rw [f4]; exact h3 j i hj⟩
theorem MP_cfr {g : GE} {σ : MW} {w w' : GW} (hS : SK g w) (h : MP g σ w) (hF : CFr g w w') : MP g σ w' := by
  obtain ⟨h1, h2, h3⟩ := h
  obtain ⟨f1, f2, f3, f4, f5, f6, f7, f8, f9⟩ := hF
  have := hS.1
  exact ⟨fun f hf => by rw [f8 _ _ (by omega) (by omega) (by omega) (by omega) (by omega) (by omega)]; exact h1 f hf, fun j i hj => by rw [f6 _ _ (fun r hr => by unfold aRz; omega)]; exact h2 j i hj, fun j i hj => by rw [f7 _ _ (by omega) (by omega) (fun r hr => by unfold aRd; omega)]; exact h3 j i hj⟩
/-- both sides' answers to one call -/
def Pair (g : GE) (d : Nat) (Yc Ym : GM) (as : List Value) (w : GW) (σ : MW) (R : Value → Value → Prop) : Prop :=
  ∃ (a b : Value) (P' : PG) (O' : Nat → Nat) (w' : GW) (σ' : MW), Ans g d Yc (.ref (eB g) :: as) (put g σ w) (some a) (put g σ w') ∧ Ans g d Ym (.ref (eB g + 70) :: as) (put g σ w') (some b) (put g σ' w') ∧ R a b ∧ INV g P' O' w' σ' ∧ gN w' ≤ gN w + 600 ∧ gU w' ≤ gU w + 3600
def RI (a b : Value) : Prop := ∃ v : Int32, a = .int v ∧ b = .int v
def RD (a b : Value) : Prop := ∃ v : UInt64, DF v ∧ a = .double v ∧ b = .double v
theorem Pair_of {g : GE} {d : Nat} {Yc Ym : GM} {as : List Value} {w : GW} {σ : MW} {R : Value → Value → Prop} (H : ∀ w, MP g σ w → CE g (put g σ w) w → ∃ (a b : Value) (P' : PG) (O' : Nat → Nat) (w' : GW) (σ' : MW), Ans g d Yc (.ref (eB g) :: as) w (some a) w' ∧ MP g σ w' ∧ (∀ w1, SK g w1 → Ans g d Ym (.ref (eB g + 70) :: as) (put g σ w1) (some b) (put g σ' w1)) ∧ R a b ∧ INV g P' O' w' σ' ∧ gN w' ≤ gN w + 600 ∧ gU w' ≤ gU w + 3600) : Pair g d Yc Ym as w σ R := by
  have hm := MP_put g σ w
  have hce : CE g (put g σ (put g σ w)) (put g σ w) := by rw [put_self hm]; exact ⟨rfl, rfl, rfl, rfl, rfl, fun _ _ _ => rfl, fun _ _ _ => rfl, fun _ _ _ => rfl⟩
  obtain ⟨a, b, P', O', w', σ', h1, h2, h3, h4, h5, h6, h7⟩ := H (put g σ w) hm hce
  exact ⟨a, b, P', O', w', σ', by rw [put_self h2]; exact h1, h3 w' h5.1, h4, h5, h6, h7⟩
