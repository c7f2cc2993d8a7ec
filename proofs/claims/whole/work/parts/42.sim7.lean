theorem fU_01 (over : Int32) : ∀ n k, fU over n k = 0 ∨ fU over n k = 1
  | 0, _ => Or.inl rfl
  | n + 1, k => by
    show (if k = 0 then 0 else if nI k = over then 1 else fU over n (aTab k).toNatClampNeg) = 0 ∨ (if k = 0 then 0 else if nI k = over then 1 else fU over n (aTab k).toNatClampNeg) = 1
    by_cases h1 : k = 0
    · rw [if_pos h1]; exact Or.inl rfl
    · rw [if_neg h1]
      by_cases h2 : nI k = over
      · rw [if_pos h2]; exact Or.inr rfl
      · rw [if_neg h2]; exact fU_01 over n _
section CHAIN
variable {g : GE} {P : PG} {w : GW} {A : Nat → Nat → Int32} {W : Nat → Nat → Bool → Prop} {c : Bool} {r s : Nat}
theorem WE_prt {wh : Nat → Int32} {nx : Nat → Option Nat} {q e : Nat} (h : WE wh nx W c q e) : (wh q = 0 ∨ wh q = 3) ∧ q ≤ e := by
  rcases h with ⟨h1, h2, -⟩ | ⟨h1, h2, -⟩
  · exact ⟨Or.inl h2, by omega⟩
  · exact ⟨Or.inr h1, by omega⟩
theorem WP_end {wh : Nat → Int32} {nx : Nat → Option Nat} : ∀ {n p e : Nat}, WP wh nx W c n p e → ∃ q : Nat, p < q ∧ nx p = some q ∧ W (p + 1) q (c || decide (wh p = 2)) ∧ isPrt (wh q)
  | 0, p, e, h => by
    obtain ⟨q, h1, h2, h3, h4⟩ := h
    exact ⟨q, h1, h2, h3, (WE_prt h4).1.elim Or.inl (fun z => Or.inr (Or.inr z))⟩
  | n + 1, p, e, h => by
    obtain ⟨q, h1, h2, h3, h4⟩ := h
    refine ⟨q, h1, h2, h3, ?_⟩
    rcases h4 with h4 | h4
    · exact (WE_prt h4).1.elim Or.inl (fun z => Or.inr (Or.inr z))
    · exact Or.inr (Or.inl h4.1)
theorem fin_WE {p q1 e : Nat} (hr : r < 4) (hP : PR1 g P w A r s) (hp : p < s) (h1 : A 0 (40 * r + p) = 1 ∨ A 0 (40 * r + p) = 2) (hN : pN P r p = some q1) (h : WE (fun i => A 0 (40 * r + i)) (pN P r) W c q1 e) : ∃ (qf : Nat) (res : Option Nat), mLP A 1 (40 * r + p) (40 * r + qf) ∧ cFP g w 0 (pQ P r q1) res ∧ qf < s ∧ ((res = none ∧ qf = e ∧ A 0 (40 * r + qf) = 0) ∨ (res = some (pQ P r qf) ∧ A 0 (40 * r + qf) = 3 ∧ qf < e ∧ pN P r qf = some e ∧ A 0 (40 * r + e) = 0 ∧ W (qf + 1) e c)) := by
  have hs := hP.1
  obtain ⟨hq, h5⟩ := hP.2.2.2.2.2.1 p q1 hp hN
  obtain ⟨a1, a2, a3, a4, a5, a6, a7, a8, a9, a10, a11⟩ := hP.2.2.2.2.1 q1 hq
  have n3 : ¬ A 0 (40 * r + p) = 3 := by rcases h1 with z | z <;> rw [z] <;> decide
  have n0 : ¬ A 0 (40 * r + p) = 0 := by rcases h1 with z | z <;> rw [z] <;> decide
  rcases h with ⟨e1, e2, e3⟩ | ⟨e1, e2, e3, e4, e5, e6⟩
  · have e2' : A 0 (40 * r + q1) = 0 := e2
    exact ⟨q1, none, ⟨by omega, n3, n0, 40 * r + q1, h5, rfl, by omega, Or.inr e2'⟩, ⟨a2, Or.inr ⟨by rw [a3, e2']; decide, by rw [a10, e3]; rfl, rfl⟩⟩, hq, Or.inl ⟨rfl, e1, e2'⟩⟩
  · have e1' : A 0 (40 * r + q1) = 3 := e1
    exact ⟨q1, some (pQ P r q1), ⟨by omega, n3, n0, 40 * r + q1, h5, rfl, by omega, Or.inl e1'⟩, ⟨a2, Or.inl ⟨by rw [a3]; exact e1', rfl⟩⟩, hq, Or.inr ⟨rfl, e1', e2, e3, e4, e6⟩⟩
theorem fin_chain (hr : r < 4) (hP : PR1 g P w A r s) : ∀ {n p e : Nat}, p < s → (A 0 (40 * r + p) = 1 ∨ A 0 (40 * r + p) = 2) → WP (fun i => A 0 (40 * r + i)) (pN P r) W c n p e → ∃ q1 : Nat, pN P r p = some q1 ∧ ∃ (m n' qf : Nat) (res : Option Nat), m ≤ n + 1 ∧ mLP A m (40 * r + p) (40 * r + qf) ∧ cFP g w n' (pQ P r q1) res ∧ qf < s ∧ ((res = none ∧ qf = e ∧ A 0 (40 * r + qf) = 0) ∨ (res = some (pQ P r qf) ∧ A 0 (40 * r + qf) = 3 ∧ qf < e ∧ pN P r qf = some e ∧ A 0 (40 * r + e) = 0 ∧ W (qf + 1) e c))
  | 0, p, e, hp, h1, h => by
    obtain ⟨q1, -, hN, -, h4⟩ := h
    obtain ⟨qf, res, z1, z2, z3, z4⟩ := fin_WE hr hP hp h1 hN h4
    exact ⟨q1, hN, 1, 0, qf, res, by omega, z1, z2, z3, z4⟩
  | n + 1, p, e, hp, h1, h => by
    obtain ⟨q1, -, hN, -, h4⟩ := h
    rcases h4 with h4 | ⟨h4, h5⟩
    · obtain ⟨qf, res, z1, z2, z3, z4⟩ := fin_WE hr hP hp h1 hN h4
      exact ⟨q1, hN, 1, 0, qf, res, by omega, z1, z2, z3, z4⟩
    · have hs := hP.1
      obtain ⟨hq, h6⟩ := hP.2.2.2.2.2.1 p q1 hp hN
      obtain ⟨a1, a2, a3, a4, a5, a6, a7, a8, a9, a10, a11⟩ := hP.2.2.2.2.1 q1 hq
      have h4' : A 0 (40 * r + q1) = 2 := h4
      obtain ⟨q2, hN2, m, n', qf, res, z1, z2, z3, z4, z5⟩ := fin_chain hr hP hq (Or.inr h4') h5
      have n3 : ¬ A 0 (40 * r + p) = 3 := by rcases h1 with z | z <;> rw [z] <;> decide
      have n0 : ¬ A 0 (40 * r + p) = 0 := by rcases h1 with z | z <;> rw [z] <;> decide
      exact ⟨q1, hN, m + 1, n' + 1, qf, res, by omega, ⟨by omega, n3, n0, 40 * r + q1, h6, z2⟩, ⟨a2, by rw [a3, h4']; decide, pQ P r q2, by rw [a10, hN2]; rfl, z3⟩, z4, z5⟩
theorem catch_WE {kd p q1 e : Nat} (hr : r < 4) (hP : PR1 g P w A r s) (hp : p < s) (hN : pN P r p = some q1) (h : WE (fun i => A 0 (40 * r + i)) (pN P r) W c q1 e) : mSC A kd 0 (40 * r + q1) (40 * r + q1) ∧ cCP g w kd 0 (pQ P r q1) none ∧ q1 < s ∧ ¬ A 0 (40 * r + q1) = 2 := by
  have hs := hP.1
  obtain ⟨hq, h5⟩ := hP.2.2.2.2.2.1 p q1 hp hN
  obtain ⟨a1, a2, a3, a4, a5, a6, a7, a8, a9, a10, a11⟩ := hP.2.2.2.2.1 q1 hq
  have n2 : ¬ A 0 (40 * r + q1) = 2 := by
    have : A 0 (40 * r + q1) = 0 ∨ A 0 (40 * r + q1) = 3 := (WE_prt h).1
    rcases this with z | z <;> rw [z] <;> decide
  exact ⟨⟨rfl, by omega, Or.inl n2⟩, ⟨a2, Or.inl ⟨by rw [a3]; exact n2, rfl⟩⟩, hq, n2⟩
theorem catch_chain {kd : Nat} (hr : r < 4) (hP : PR1 g P w A r s) : ∀ {n p e : Nat}, p < s → WP (fun i => A 0 (40 * r + i)) (pN P r) W c n p e → ∃ q1 : Nat, pN P r p = some q1 ∧ ∃ (m n' q : Nat) (res : Option Nat), m ≤ n ∧ mSC A kd m (40 * r + q1) (40 * r + q) ∧ cCP g w kd n' (pQ P r q1) res ∧ q < s ∧ ((res = none ∧ ¬ A 0 (40 * r + q) = 2) ∨ (res = some (pQ P r q) ∧ A 0 (40 * r + q) = 2 ∧ ∃ q2 : Nat, q < q2 ∧ pN P r q = some q2 ∧ W (q + 1) q2 true ∧ isPrt (A 0 (40 * r + q2))))
  | 0, p, e, hp, h => by
    obtain ⟨q1, -, hN, -, h4⟩ := h
    obtain ⟨z1, z2, z3, z4⟩ := catch_WE (kd := kd) hr hP hp hN h4
    exact ⟨q1, hN, 0, 0, q1, none, Nat.le_refl _, z1, z2, z3, Or.inl ⟨rfl, z4⟩⟩
  | n + 1, p, e, hp, h => by
    obtain ⟨q1, -, hN, -, h4⟩ := h
    rcases h4 with h4 | ⟨h4, h5⟩
    · obtain ⟨z1, z2, z3, z4⟩ := catch_WE (kd := kd) hr hP hp hN h4
      exact ⟨q1, hN, 0, 0, q1, none, by omega, z1, z2, z3, Or.inl ⟨rfl, z4⟩⟩
    · have hs := hP.1
      obtain ⟨hq, h6⟩ := hP.2.2.2.2.2.1 p q1 hp hN
      obtain ⟨a1, a2, a3, a4, a5, a6, a7, a8, a9, a10, a11⟩ := hP.2.2.2.2.1 q1 hq
      have h4' : A 0 (40 * r + q1) = 2 := h4
      rcases fU_01 (A 1 (40 * r + q1)) 4 kd with hu | hu
      · obtain ⟨q2, hN2, m, n', q, res, z1, z2, z3, z4, z5⟩ := catch_chain (kd := kd) hr hP hq h5
        obtain ⟨hq2, h7⟩ := hP.2.2.2.2.2.1 q1 q2 hq hN2
        exact ⟨q1, hN, m + 1, n' + 1, q, res, by omega, ⟨by omega, h4', hu, 40 * r + q2, h7, z2⟩, ⟨a2, by rw [a3]; exact h4', by rw [a4]; exact hu, pQ P r q2, by rw [a10, hN2]; rfl, z3⟩, z4, z5⟩
      · obtain ⟨q2, y1, y2, y3, y4⟩ := WP_end h5
        have y3' : W (q1 + 1) q2 true := by
          have ed : decide ((fun i => A 0 (40 * r + i)) q1 = 2) = true := decide_eq_true h4'
          rw [ed, Bool.or_true] at y3
          exact y3
        exact ⟨q1, hN, 0, 0, q1, some (pQ P r q1), by omega, ⟨rfl, by omega, Or.inr ⟨h4', hu⟩⟩, ⟨a2, Or.inr ⟨by rw [a3]; exact h4', by rw [a4]; exact hu, rfl⟩⟩, hq, Or.inr ⟨rfl, h4', q2, y1, y2, y3', y4⟩⟩
end CHAIN
theorem Base_cau {g : GE} {P : PG} {w : GW} {σ : MW} {c nf : Nat} (hB : Base g P w σ c nf) : Base g P (setI w 6 (eB g + 1) (gI w 6 (eB g + 1) + 1)) (sI σ 35 (mI σ 35 + 1)) c nf := by
  refine Base_same hB (CFr_setI 6 _ _ (by omega)) (MFr_sI (b := 0) (nf := 0) (by omega)) (Nat.le_refl c) (Sm_mk (SmC_setI _ _ _ (by omega)) ((SmM_refl σ).I 35 _ (by omega))) ?_
  obtain ⟨n1, n2, n3, n4, n5, n6⟩ := hB.2.2.2.1
  refine ⟨n1, by rw [gI_setI, up2_ne _ _ (by omega)]; exact n2, by rw [mI_sI, if_neg (by decide)]; exact n3, by rw [gI_setI, up2_at, mI_sI, if_pos rfl, n4], ?_, by rw [mI_sI, if_neg (by decide)]; exact n6⟩
  rw [gI_setI, up2_ne _ _ (by omega), mI_sI, if_neg (by decide)]; exact n5
theorem Base_fin {g : GE} {P : PG} {w : GW} {σ : MW} {c nf : Nat} (hB : Base g P w σ c nf) : Base g P (setI w 7 (eB g + 1) (gI w 7 (eB g + 1) + 1)) (sI σ 36 (mI σ 36 + 1)) c nf := by
  refine Base_same hB (CFr_setI 7 _ _ (by omega)) (MFr_sI (b := 0) (nf := 0) (by omega)) (Nat.le_refl c) (Sm_mk (SmC_setI _ _ _ (by omega)) ((SmM_refl σ).I 36 _ (by omega))) ?_
  obtain ⟨n1, n2, n3, n4, n5, n6⟩ := hB.2.2.2.1
  refine ⟨n1, by rw [gI_setI, up2_ne _ _ (by omega)]; exact n2, by rw [mI_sI, if_neg (by decide)]; exact n3, ?_, by rw [gI_setI, up2_at, mI_sI, if_pos rfl, n5], by rw [mI_sI, if_neg (by decide)]; exact n6⟩
  rw [gI_setI, up2_ne _ _ (by omega), mI_sI, if_neg (by decide)]; exact n4
