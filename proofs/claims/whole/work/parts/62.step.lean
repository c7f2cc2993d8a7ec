/-! ===== what 'step' changes, and what stays ===== -/
section SF
variable {g : GE} {O : Nat → Nat} {r : Nat} {w w1 : GW}
theorem SFr.I (h : SFr g O r w w1) (c a : Nat) (x : Int32) (hc : gN w ≤ a ∨ ((c = 67 ∨ c = 323 ∨ c = 324 ∨ c = 454) ∧ (a = aRt g r ∨ (eB g + 99 ≤ a ∧ own O r a)))) : SFr g O r w (setI w1 c a x) := by
  obtain ⟨a1, a2, a3, a4, a5, a6, a7, a8, a9⟩ := h
  refine ⟨a1, a2, a3, a4, a5, a6, fun c' a' ha n1 n2 n3 n4 => ?_, a8, fun c' a' ha n1 n2 => ⟨?_, (a9 c' a' ha n1 n2).2⟩⟩
  · rw [gI_setI, up2_ne _ _ (by omega)]; exact a7 c' a' ha n1 n2 n3 n4
  · rw [gI_setI, up2_ne]
    · exact (a9 c' a' ha n1 n2).1
    · rintro ⟨rfl, rfl⟩
      rcases hc with z | ⟨-, z | ⟨z1, z2⟩⟩
      · omega
      · exact n2 z
      · exact n1.elim (fun y => by omega) (fun y => y z2)
theorem SFr.R (h : SFr g O r w w1) (c a : Nat) (x : Option Nat) (hc : gN w ≤ a ∨ ((c = 66 ∨ c = 322 ∨ c = 455) ∧ (a = aRt g r ∨ (eB g + 99 ≤ a ∧ own O r a)))) : SFr g O r w (setR w1 c a x) := by
  obtain ⟨a1, a2, a3, a4, a5, a6, a7, a8, a9⟩ := h
  refine ⟨a1, a2, a3, a4, a5, a6, a7, fun c' a' ha n1 n2 n3 => ?_, fun c' a' ha n1 n2 => ⟨(a9 c' a' ha n1 n2).1, ?_⟩⟩
  · rw [gR_setR, up2_ne _ _ (by omega)]; exact a8 c' a' ha n1 n2 n3
  · rw [gR_setR, up2_ne]
    · exact (a9 c' a' ha n1 n2).2
    · rintro ⟨rfl, rfl⟩
      rcases hc with z | ⟨-, z | ⟨z1, z2⟩⟩
      · omega
      · exact n2 z
      · exact n1.elim (fun y => by omega) (fun y => y z2)
theorem SFr.P (h : SFr g O r w w1) (i : Nat) (x : Option Nat) : SFr g O r w (setP w1 (aSt g r) i x) := by
  obtain ⟨a1, a2, a3, a4, a5, a6, a7, a8, a9⟩ := h
  exact ⟨a1, a2, a3, a4, a5, fun a i' ha => by rw [gP_setP, up2_ne _ _ (fun q => ha q.1)]; exact a6 a i' ha, a7, a8, a9⟩
theorem SFr.N (h : SFr g O r w w1) (ci N : Nat) : SFr g O r w (newO w1 ci N) := by
  obtain ⟨a1, a2, a3, a4, a5, a6, a7, a8, a9⟩ := h
  refine ⟨by rw [gN_newO]; omega, fun a ha => ?_, a3, a4, a5, a6, fun c a ha n1 n2 n3 n4 => ?_, fun c a ha n1 n2 n3 => ?_, fun c a ha n1 n2 => ⟨?_, ?_⟩⟩
  · rw [gK_newO, va_up_ne _ _ (by omega)]; exact a2 a ha
  · rw [gI_newO, nul2, if_neg (by omega)]; exact a7 c a ha n1 n2 n3 n4
  · rw [gR_newO, nul2, if_neg (by omega)]; exact a8 c a ha n1 n2 n3
  · rw [gI_newO, nul2, if_neg (by omega)]; exact (a9 c a ha n1 n2).1
  · rw [gR_newO, nul2, if_neg (by omega)]; exact (a9 c a ha n1 n2).2
theorem SFr_ap (g : GE) (O : Nat → Nat) (w : GW) (r s : Nat) (v a b c : Int32) : SFr g O r w (apW g w r s v a b c) := by
  unfold apW setS
  exact ((((((((((SFr_refl g O r w).N 7 8).I 448 _ _ (Or.inl (Nat.le_refl _))).I 449 _ _ (Or.inl (Nat.le_refl _))).I 450 _ _ (Or.inl (Nat.le_refl _))).I 451 _ _ (Or.inl (Nat.le_refl _))).I 452 _ _ (Or.inl (Nat.le_refl _))).I 453 _ _ (Or.inl (Nat.le_refl _))).I 454 _ _ (Or.inl (Nat.le_refl _))).P s _).I 323 _ _ (Or.inr ⟨by omega, Or.inl rfl⟩)
end SF
section AP
variable {g : GE} {w : GW} {r s : Nat} {v x y z : Int32}
theorem apI_old {c a : Nat} (ha : a < gN w) (h : ¬ (c = 323 ∧ a = aRt g r)) : gI (apW g w r s v x y z) c a = gI w c a := by
  unfold apW setS
  rw [gI_setI, up2_ne _ _ h, gI_setP, gI_setI, up2_ne _ _ (by omega), gI_setI, up2_ne _ _ (by omega), gI_setI, up2_ne _ _ (by omega), gI_setI, up2_ne _ _ (by omega), gI_setI, up2_ne _ _ (by omega), gI_setI, up2_ne _ _ (by omega), gI_setI, up2_ne _ _ (by omega), gI_newO, nul2, if_neg (by omega)]
theorem apI_used : gI (apW g w r s v x y z) 323 (aRt g r) = nI (s + 1) := by
  unfold apW
  rw [gI_setI, up2_at]
theorem apI_new : gI (apW g w r s v x y z) 448 (gN w) = v ∧ gI (apW g w r s v x y z) 449 (gN w) = x ∧ gI (apW g w r s v x y z) 450 (gN w) = y ∧ gI (apW g w r s v x y z) 451 (gN w) = z ∧ gI (apW g w r s v x y z) 452 (gN w) = nI s ∧ gI (apW g w r s v x y z) 453 (gN w) = nI (40 * r + s) ∧ gI (apW g w r s v x y z) 454 (gN w) = nI s := by
  unfold apW setS
  refine ⟨?_, ?_, ?_, ?_, ?_, ?_, ?_⟩
  · rw [gI_setI, up2_ne _ _ (by omega), gI_setP, gI_setI, up2_ne _ _ (by omega), gI_setI, up2_ne _ _ (by omega), gI_setI, up2_ne _ _ (by omega), gI_setI, up2_ne _ _ (by omega), gI_setI, up2_ne _ _ (by omega), gI_setI, up2_ne _ _ (by omega), gI_setI, up2_at]
  · rw [gI_setI, up2_ne _ _ (by omega), gI_setP, gI_setI, up2_ne _ _ (by omega), gI_setI, up2_ne _ _ (by omega), gI_setI, up2_ne _ _ (by omega), gI_setI, up2_ne _ _ (by omega), gI_setI, up2_ne _ _ (by omega), gI_setI, up2_at]
  · rw [gI_setI, up2_ne _ _ (by omega), gI_setP, gI_setI, up2_ne _ _ (by omega), gI_setI, up2_ne _ _ (by omega), gI_setI, up2_ne _ _ (by omega), gI_setI, up2_ne _ _ (by omega), gI_setI, up2_at]
  · rw [gI_setI, up2_ne _ _ (by omega), gI_setP, gI_setI, up2_ne _ _ (by omega), gI_setI, up2_ne _ _ (by omega), gI_setI, up2_ne _ _ (by omega), gI_setI, up2_at]
  · rw [gI_setI, up2_ne _ _ (by omega), gI_setP, gI_setI, up2_ne _ _ (by omega), gI_setI, up2_ne _ _ (by omega), gI_setI, up2_at]
  · rw [gI_setI, up2_ne _ _ (by omega), gI_setP, gI_setI, up2_ne _ _ (by omega), gI_setI, up2_at]
  · rw [gI_setI, up2_ne _ _ (by omega), gI_setP, gI_setI, up2_at]
theorem apR_old {c a : Nat} (ha : a < gN w) : gR (apW g w r s v x y z) c a = gR w c a := by
  show nul2 (gR w) (gN w) none c a = _
  rw [nul2, if_neg (by omega)]
theorem apR_new {c : Nat} : gR (apW g w r s v x y z) c (gN w) = none := by
  show nul2 (gR w) (gN w) none c (gN w) = _
  rw [nul2, if_pos rfl]
theorem apP {i : Nat} : gP (apW g w r s v x y z) (aSt g r) i = if i = s then some (gN w) else gP w (aSt g r) i := by
  show up2 (gP w) (aSt g r) s (some (gN w)) (aSt g r) i = _
  unfold up2
  by_cases h : i = s
  · rw [if_pos ⟨rfl, h⟩, if_pos h]
  · rw [if_neg (fun q => h q.2), if_neg h]
theorem apN : gN (apW g w r s v x y z) = gN w + 1 := rfl
theorem apU : gU (apW g w r s v x y z) = gU w + 8 := rfl
theorem ap_ob (hB : eB g ≤ gN w) : gOb g (apW g w r s v x y z) (gN w) 7 := ⟨hB, Nat.lt_succ_self _, by show va_up (gK w) (gN w) 7 (gN w) = 7; rw [va_up_self]⟩
theorem ap_keep {a k : Nat} (h : gOb g w a k) : gOb g (apW g w r s v x y z) a k := (SFr_ap g (fun _ => 0) w r s v x y z).ob h
end AP
/-- the steps of routine r, one more -/
theorem PR1_app {g : GE} {P P' : PG} {O : Nat → Nat} {w w' : GW} {A A' : Nat → Nat → Int32} {r s : Nat} (h : PR1 g P w A r s) (hs : s < 40) (hF : SFr g O r w w') (hQ : ∀ i, pQ P' r i = if i = s then gN w else pQ P r i)
    (c1 : gI w' 323 (aRt g r) = nI (s + 1)) (c2 : gI w' 324 (aRt g r) = A' 7 r) (c3 : ∀ i, gP w' (aSt g r) i = if i = s then some (gN w) else gP w (aSt g r) i) (c4 : gOb g w' (gN w) 7)
    (c5 : gI w' 448 (gN w) = A' 0 (40 * r + s) ∧ gI w' 449 (gN w) = A' 1 (40 * r + s) ∧ gI w' 450 (gN w) = A' 2 (40 * r + s) ∧ gI w' 451 (gN w) = A' 3 (40 * r + s) ∧ gI w' 452 (gN w) = nI s ∧ gI w' 453 (gN w) = nI (40 * r + s))
    (c6 : ∀ i, i < s + 1 → gI w' 454 (pQ P' r i) = nI (pE P' r i) ∧ gR w' 455 (pQ P' r i) = (pN P' r i).map (pQ P' r)) (m1 : ∀ j i, j ≤ 3 → i < s → A' j (40 * r + i) = A j (40 * r + i)) (m2 : A' 6 r = nI (s + 1)) (m3 : argOK A' (40 * r + s))
    (m4 : ∀ i j, i < s + 1 → pN P' r i = some j → j < s + 1 ∧ A' 5 (40 * r + i) = nI (40 * r + j)) (m5 : ∀ i, i < s + 1 → pE P' r i < s + 1 ∧ (¬ pE P' r i = i → A' 4 (40 * r + i) = nI (40 * r + pE P' r i))) : PR1 g P' w' A' r (s + 1) := by
  obtain ⟨h1, h2, h3, h4, h5, h6, h7⟩ := h
  refine ⟨by omega, c1, m2, c2, fun i hi => ?_, m4, m5⟩
  obtain ⟨d1, d2⟩ := c6 i hi
  by_cases e : i = s
  · subst e
    rw [hQ, if_pos rfl] at d1 d2
    rw [hQ, if_pos rfl, c3, if_pos rfl]
    exact ⟨rfl, c4, c5.1, c5.2.1, c5.2.2.1, c5.2.2.2.1, c5.2.2.2.2.1, c5.2.2.2.2.2, d1, d2, m3⟩
  · obtain ⟨q1, q2, q3, q4, q5, q6, q7, q8, q9, q10, q11⟩ := h5 i (by omega)
    rw [hQ, if_neg e] at d1 d2
    rw [hQ, if_neg e, c3, if_neg e]
    have f7 := fun cc n1 n2 n3 n4 => hF.2.2.2.2.2.2.1 cc _ q2.2.1 n1 n2 n3 n4
    refine ⟨q1, hF.ob q2, ?_, ?_, ?_, ?_, ?_, ?_, d1, d2, argOK_same (m1 _ _ (by omega) (by omega)) (m1 _ _ (by omega) (by omega)) (m1 _ _ (by omega) (by omega)) (m1 _ _ (by omega) (by omega)) q11⟩
    · rw [f7 448 (by omega) (by omega) (by omega) (by omega), m1 _ _ (by omega) (by omega)]; exact q3
    · rw [f7 449 (by omega) (by omega) (by omega) (by omega), m1 _ _ (by omega) (by omega)]; exact q4
    · rw [f7 450 (by omega) (by omega) (by omega) (by omega), m1 _ _ (by omega) (by omega)]; exact q5
    · rw [f7 451 (by omega) (by omega) (by omega) (by omega), m1 _ _ (by omega) (by omega)]; exact q6
    · rw [f7 452 (by omega) (by omega) (by omega) (by omega)]; exact q7
    · rw [f7 453 (by omega) (by omega) (by omega) (by omega)]; exact q8
/-- a chain of blocks below the address B stays -/
theorem BC_keep {g : GE} {P P' : PG} {O O' : Nat → Nat} {w w' : GW} {r B : Nat} (hO : ∀ a, a < gN w → O' a = O a) (hob : ∀ a k, gOb g w a k → gOb g w' a k) (hI : ∀ a, a < B → a < gN w → gI w' 67 a = gI w 67 a ∧ gR w' 64 a = gR w 64 a ∧ gR w' 65 a = gR w 65 a ∧ gR w' 66 a = gR w 66 a) : ∀ (bs : List (Nat × Nat × Nat)) (a : Option Nat), (∀ b ∈ bs, pQ P' r b.1 = pQ P r b.1 ∧ pQ P' r b.2.1 = pQ P r b.2.1) → (∀ q, a = some q → q < B) → BC g P O w r bs a → BC g P' O' w' r bs a
  | [], a, _, _, h => h
  | (o, p, x) :: bs, a, hQ, hB, ⟨q, h0, h1, h2, h3, h4, h5, h6, h7⟩ => by
    have hq := h1.2.1
    have hqB := hB q h0
    obtain ⟨e1, e2, e3, e4⟩ := hI q hqB hq
    obtain ⟨k1, k2⟩ := hQ (o, p, x) List.mem_cons_self
    have k1' : pQ P' r o = pQ P r o := k1
    have k2' : pQ P' r p = pQ P r p := k2
    refine ⟨q, h0, hob _ _ h1, by rw [hO q hq]; exact h2, by rw [e2, k1']; exact h3, by rw [e4, k2']; exact h4, by rw [e1]; exact h5, by rw [e3]; exact h6, ?_⟩
    rw [e3]
    exact BC_keep hO hob hI bs _ (fun b hb => hQ b (List.mem_cons_of_mem _ hb)) (fun q' hq' => Nat.lt_trans (h6 q' hq') hqB) h7
/-- P with one step more in routine r, at the address n -/
def upP (P : PG) (r s n : Nat) : PG := (up2 (pN P) r s none, up2 (pE P) r s s, up2 (pQ P) r s n)
def upN (P : PG) (r p s : Nat) : PG := (up2 (pN P) r p (some s), pE P, pQ P)
def upE (P : PG) (r o s : Nat) : PG := (pN P, up2 (pE P) r o s, pQ P)
theorem up2_ite {α : Type} (f : Nat → Nat → α) (c a : Nat) (v : α) (x y : Nat) : up2 f c a v x y = if x = c ∧ y = a then v else f x y := rfl
theorem upP_other {P : PG} {r s n r' : Nat} (h : ¬ r' = r) : pQ (upP P r s n) r' = pQ P r' ∧ pN (upP P r s n) r' = pN P r' ∧ pE (upP P r s n) r' = pE P r' := by
  refine ⟨?_, ?_, ?_⟩ <;> funext i <;> exact up2_ne _ _ (fun q => h q.1)
theorem upP_q {P : PG} {r s n i : Nat} : pQ (upP P r s n) r i = if i = s then n else pQ P r i := by
  show up2 (pQ P) r s n r i = _
  rw [up2_ite]
  by_cases h : i = s
  · rw [if_pos ⟨rfl, h⟩, if_pos h]
  · rw [if_neg (fun q => h q.2), if_neg h]
theorem upP_n {P : PG} {r s n i : Nat} : pN (upP P r s n) r i = if i = s then none else pN P r i := by
  show up2 (pN P) r s none r i = _
  rw [up2_ite]
  by_cases h : i = s
  · rw [if_pos ⟨rfl, h⟩, if_pos h]
  · rw [if_neg (fun q => h q.2), if_neg h]
theorem upP_e {P : PG} {r s n i : Nat} : pE (upP P r s n) r i = if i = s then s else pE P r i := by
  show up2 (pE P) r s s r i = _
  rw [up2_ite]
  by_cases h : i = s
  · rw [if_pos ⟨rfl, h⟩, if_pos h]
  · rw [if_neg (fun q => h q.2), if_neg h]
theorem upN_n {P : PG} {r p s i : Nat} : pN (upN P r p s) r i = if i = p then some s else pN P r i := by
  show up2 (pN P) r p (some s) r i = _
  rw [up2_ite]
  by_cases h : i = p
  · rw [if_pos ⟨rfl, h⟩, if_pos h]
  · rw [if_neg (fun q => h q.2), if_neg h]
theorem upN_other {P : PG} {r p s r' : Nat} (h : ¬ r' = r) : pN (upN P r p s) r' = pN P r' := by
  funext i; exact up2_ne _ _ (fun q => h q.1)
theorem upE_e {P : PG} {r o s i : Nat} : pE (upE P r o s) r i = if i = o then s else pE P r i := by
  show up2 (pE P) r o s r i = _
  rw [up2_ite]
  by_cases h : i = o
  · rw [if_pos ⟨rfl, h⟩, if_pos h]
  · rw [if_neg (fun q => h q.2), if_neg h]
theorem upE_other {P : PG} {r o s r' : Nat} (h : ¬ r' = r) : pE (upE P r o s) r' = pE P r' := by
  funext i; exact up2_ne _ _ (fun q => h q.1)
/-- the model's rows that a step writes -/
theorem mSt_0 (σ : MW) (r s : Nat) (v a b c : Int32) : mA (mSt σ r s v a b c) 0 (40 * r + s) = v ∧ mA (mSt σ r s v a b c) 1 (40 * r + s) = a ∧ mA (mSt σ r s v a b c) 2 (40 * r + s) = b ∧ mA (mSt σ r s v a b c) 3 (40 * r + s) = c := by
  unfold mSt
  refine ⟨?_, ?_, ?_, ?_⟩
  · rw [mA_sA, if_neg (by omega), mA_sA, if_neg (by omega), mA_sA, if_neg (by omega), mA_sA, if_neg (by omega), mA_sA, if_pos ⟨rfl, rfl⟩]
  · rw [mA_sA, if_neg (by omega), mA_sA, if_neg (by omega), mA_sA, if_neg (by omega), mA_sA, if_pos ⟨rfl, rfl⟩]
  · rw [mA_sA, if_neg (by omega), mA_sA, if_neg (by omega), mA_sA, if_pos ⟨rfl, rfl⟩]
  · rw [mA_sA, if_neg (by omega), mA_sA, if_pos ⟨rfl, rfl⟩]
theorem mSt_i (σ : MW) (r s : Nat) (v a b c : Int32) {j i : Nat} (h : ¬ (j ≤ 3 ∧ i = 40 * r + s)) (h6 : ¬ (j = 6 ∧ i = r)) : mA (mSt σ r s v a b c) j i = mA σ j i := by
  unfold mSt
  rw [mA_sA, if_neg h6, mA_sA, if_neg (by omega), mA_sA, if_neg (by omega), mA_sA, if_neg (by omega), mA_sA, if_neg (by omega)]
