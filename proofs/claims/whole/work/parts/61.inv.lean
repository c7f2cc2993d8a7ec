/-! ===== what the tables let through ===== -/
theorem ite1 {c x : Int32} (h : (if c = 0 then 0 else x) = 1) : ¬ c = 0 ∧ x = 1 := by
  by_cases e : c = 0
  · rw [if_pos e] at h; exact absurd h (by decide)
  · rw [if_neg e] at h; exact ⟨e, h⟩
theorem fIn_lt {v : Int32} (hi : Nat) (hh : hi < 2 ^ 30) (h : ¬ fIn v 0 (nI hi) = 0) : ∃ j : Nat, j < hi + 1 ∧ v = nI j := by
  obtain ⟨j, h1, h2⟩ := fIn_nI hi (by omega) h
  exact ⟨j, by omega, h2⟩
theorem fIn_16 {v : Int32} (h : ¬ fIn v 16 17 = 0) : ∃ j : Nat, 16 ≤ j ∧ j < 18 ∧ v = nI j := by
  obtain ⟨h1, h2⟩ := fIn_1.mp ((fIn_01 v 16 17).resolve_left h)
  have h0 : ¬ v < 0 := fun z => h1 (Int32.lt_trans z (by decide))
  obtain ⟨j, hj, rfl⟩ := nI_of h0
  refine ⟨j, ?_, ?_, rfl⟩
  · rcases Nat.lt_or_ge j 16 with q | q
    · exact absurd (nI_lt (b := 16) q (by decide)) h1
    · exact q
  · rcases Nat.lt_or_ge j 18 with q | q
    · exact q
    · exact absurd (nI_lt (a := 17) (by omega) hj) h2
theorem i1_nz : ¬ (1 : Int32) = 0 := by decide
theorem told_arg {A : Nat → Nat → Int32} {p v : Nat} {a b c : Int32} (hv : v < 25) (h : fT v a b c = 1) (e0 : A 0 p = nI v) (e1 : A 1 p = a) (e2 : A 2 p = b) (e3 : A 3 p = c) : argOK A p := by
  unfold argOK
  rw [e1, e2, e3]
  rcases (show v = 0 ∨ v = 1 ∨ v = 2 ∨ v = 3 ∨ v = 4 ∨ v = 5 ∨ v = 6 ∨ v = 7 ∨ v = 8 ∨ v = 9 ∨ v = 10 ∨ v = 11 ∨ v = 12 ∨ v = 13 ∨ v = 14 ∨ v = 15 ∨ v = 16 ∨ v = 17 ∨ v = 18 ∨ v = 19 ∨ v = 20 ∨ v = 21 ∨ v = 22 ∨ v = 23 ∨ v = 24 by omega) with rfl | rfl | rfl | rfl | rfl | rfl | rfl | rfl | rfl | rfl | rfl | rfl | rfl | rfl | rfl | rfl | rfl | rfl | rfl | rfl | rfl | rfl | rfl | rfl | rfl
  · rw [fT_0] at h
    exact ⟨fun q => absurd (e0.symm.trans q) (by decide), fun q => absurd (e0.symm.trans q) (by decide), fun q => absurd (e0.symm.trans q) (by decide), fun q => q.elim (fun q => absurd (e0.symm.trans q) (by decide)) (fun q => absurd (e0.symm.trans q) (by decide)), fun q => absurd (e0.symm.trans q) (by decide), fun q => q.elim (fun q => absurd (e0.symm.trans q) (by decide)) (fun q => absurd (e0.symm.trans q) (by decide)), fun q => absurd (e0.symm.trans q) (by decide), fun q => q.elim (fun q => absurd (e0.symm.trans q) (by decide)) (fun q => absurd (e0.symm.trans q) (by decide)), fun q => q.elim (fun q => absurd (e0.symm.trans q) (by decide)) (fun q => absurd (e0.symm.trans q) (by decide)), fun q => q.elim (fun q => absurd (e0.symm.trans q) (by decide)) (fun q => absurd (e0.symm.trans q) (by decide)), 0, by decide, e0⟩
  · rw [fT_1] at h
    exact ⟨fun q => absurd (e0.symm.trans q) (by decide), fun q => absurd (e0.symm.trans q) (by decide), fun q => absurd (e0.symm.trans q) (by decide), fun q => q.elim (fun q => absurd (e0.symm.trans q) (by decide)) (fun q => absurd (e0.symm.trans q) (by decide)), fun q => absurd (e0.symm.trans q) (by decide), fun q => q.elim (fun q => absurd (e0.symm.trans q) (by decide)) (fun q => absurd (e0.symm.trans q) (by decide)), fun q => absurd (e0.symm.trans q) (by decide), fun q => q.elim (fun q => absurd (e0.symm.trans q) (by decide)) (fun q => absurd (e0.symm.trans q) (by decide)), fun q => q.elim (fun q => absurd (e0.symm.trans q) (by decide)) (fun q => absurd (e0.symm.trans q) (by decide)), fun q => q.elim (fun q => absurd (e0.symm.trans q) (by decide)) (fun q => absurd (e0.symm.trans q) (by decide)), 1, by decide, e0⟩
  · rw [fT_2] at h
    exact ⟨fun q => absurd (e0.symm.trans q) (by decide), fun q => absurd (e0.symm.trans q) (by decide), fun q => absurd (e0.symm.trans q) (by decide), fun q => q.elim (fun q => absurd (e0.symm.trans q) (by decide)) (fun q => absurd (e0.symm.trans q) (by decide)), fun q => absurd (e0.symm.trans q) (by decide), fun q => q.elim (fun q => absurd (e0.symm.trans q) (by decide)) (fun q => absurd (e0.symm.trans q) (by decide)), fun q => absurd (e0.symm.trans q) (by decide), fun q => q.elim (fun q => absurd (e0.symm.trans q) (by decide)) (fun q => absurd (e0.symm.trans q) (by decide)), fun q => q.elim (fun q => absurd (e0.symm.trans q) (by decide)) (fun q => absurd (e0.symm.trans q) (by decide)), fun q => q.elim (fun q => absurd (e0.symm.trans q) (by decide)) (fun q => absurd (e0.symm.trans q) (by decide)), 2, by decide, e0⟩
  · rw [fT_3] at h
    exact ⟨fun q => absurd (e0.symm.trans q) (by decide), fun q => absurd (e0.symm.trans q) (by decide), fun q => absurd (e0.symm.trans q) (by decide), fun q => q.elim (fun q => absurd (e0.symm.trans q) (by decide)) (fun q => absurd (e0.symm.trans q) (by decide)), fun q => absurd (e0.symm.trans q) (by decide), fun q => q.elim (fun q => absurd (e0.symm.trans q) (by decide)) (fun q => absurd (e0.symm.trans q) (by decide)), fun q => absurd (e0.symm.trans q) (by decide), fun q => q.elim (fun q => absurd (e0.symm.trans q) (by decide)) (fun q => absurd (e0.symm.trans q) (by decide)), fun q => q.elim (fun q => absurd (e0.symm.trans q) (by decide)) (fun q => absurd (e0.symm.trans q) (by decide)), fun q => q.elim (fun q => absurd (e0.symm.trans q) (by decide)) (fun q => absurd (e0.symm.trans q) (by decide)), 3, by decide, e0⟩
  · rw [fT_4] at h
    obtain ⟨j, j1, j2⟩ := fIn_nI 6 (by decide) (by rw [show fIn a 0 (nI 6) = 1 from h]; exact i1_nz)
    exact ⟨fun _ => ⟨j, j1, j2⟩, fun q => absurd (e0.symm.trans q) (by decide), fun q => absurd (e0.symm.trans q) (by decide), fun q => q.elim (fun q => absurd (e0.symm.trans q) (by decide)) (fun q => absurd (e0.symm.trans q) (by decide)), fun q => absurd (e0.symm.trans q) (by decide), fun q => q.elim (fun q => absurd (e0.symm.trans q) (by decide)) (fun q => absurd (e0.symm.trans q) (by decide)), fun q => absurd (e0.symm.trans q) (by decide), fun q => q.elim (fun q => absurd (e0.symm.trans q) (by decide)) (fun q => absurd (e0.symm.trans q) (by decide)), fun q => q.elim (fun q => absurd (e0.symm.trans q) (by decide)) (fun q => absurd (e0.symm.trans q) (by decide)), fun q => q.elim (fun q => absurd (e0.symm.trans q) (by decide)) (fun q => absurd (e0.symm.trans q) (by decide)), 4, by decide, e0⟩
  · rw [fT_5] at h
    exact ⟨fun q => absurd (e0.symm.trans q) (by decide), fun q => absurd (e0.symm.trans q) (by decide), fun q => absurd (e0.symm.trans q) (by decide), fun q => q.elim (fun q => absurd (e0.symm.trans q) (by decide)) (fun q => absurd (e0.symm.trans q) (by decide)), fun q => absurd (e0.symm.trans q) (by decide), fun q => q.elim (fun q => absurd (e0.symm.trans q) (by decide)) (fun q => absurd (e0.symm.trans q) (by decide)), fun q => absurd (e0.symm.trans q) (by decide), fun q => q.elim (fun q => absurd (e0.symm.trans q) (by decide)) (fun q => absurd (e0.symm.trans q) (by decide)), fun q => q.elim (fun q => absurd (e0.symm.trans q) (by decide)) (fun q => absurd (e0.symm.trans q) (by decide)), fun q => q.elim (fun q => absurd (e0.symm.trans q) (by decide)) (fun q => absurd (e0.symm.trans q) (by decide)), 5, by decide, e0⟩
  · rw [fT_6] at h
    exact ⟨fun q => absurd (e0.symm.trans q) (by decide), fun q => absurd (e0.symm.trans q) (by decide), fun q => absurd (e0.symm.trans q) (by decide), fun q => q.elim (fun q => absurd (e0.symm.trans q) (by decide)) (fun q => absurd (e0.symm.trans q) (by decide)), fun q => absurd (e0.symm.trans q) (by decide), fun q => q.elim (fun q => absurd (e0.symm.trans q) (by decide)) (fun q => absurd (e0.symm.trans q) (by decide)), fun q => absurd (e0.symm.trans q) (by decide), fun q => q.elim (fun q => absurd (e0.symm.trans q) (by decide)) (fun q => absurd (e0.symm.trans q) (by decide)), fun q => q.elim (fun q => absurd (e0.symm.trans q) (by decide)) (fun q => absurd (e0.symm.trans q) (by decide)), fun q => q.elim (fun q => absurd (e0.symm.trans q) (by decide)) (fun q => absurd (e0.symm.trans q) (by decide)), 6, by decide, e0⟩
  · rw [fT_7] at h
    exact ⟨fun q => absurd (e0.symm.trans q) (by decide), fun q => absurd (e0.symm.trans q) (by decide), fun q => absurd (e0.symm.trans q) (by decide), fun q => q.elim (fun q => absurd (e0.symm.trans q) (by decide)) (fun q => absurd (e0.symm.trans q) (by decide)), fun q => absurd (e0.symm.trans q) (by decide), fun q => q.elim (fun q => absurd (e0.symm.trans q) (by decide)) (fun q => absurd (e0.symm.trans q) (by decide)), fun q => absurd (e0.symm.trans q) (by decide), fun q => q.elim (fun q => absurd (e0.symm.trans q) (by decide)) (fun q => absurd (e0.symm.trans q) (by decide)), fun q => q.elim (fun q => absurd (e0.symm.trans q) (by decide)) (fun q => absurd (e0.symm.trans q) (by decide)), fun q => q.elim (fun q => absurd (e0.symm.trans q) (by decide)) (fun q => absurd (e0.symm.trans q) (by decide)), 7, by decide, e0⟩
  · rw [fT_8] at h
    exact ⟨fun q => absurd (e0.symm.trans q) (by decide), fun q => absurd (e0.symm.trans q) (by decide), fun q => absurd (e0.symm.trans q) (by decide), fun q => q.elim (fun q => absurd (e0.symm.trans q) (by decide)) (fun q => absurd (e0.symm.trans q) (by decide)), fun q => absurd (e0.symm.trans q) (by decide), fun q => q.elim (fun q => absurd (e0.symm.trans q) (by decide)) (fun q => absurd (e0.symm.trans q) (by decide)), fun q => absurd (e0.symm.trans q) (by decide), fun q => q.elim (fun q => absurd (e0.symm.trans q) (by decide)) (fun q => absurd (e0.symm.trans q) (by decide)), fun q => q.elim (fun q => absurd (e0.symm.trans q) (by decide)) (fun q => absurd (e0.symm.trans q) (by decide)), fun q => q.elim (fun q => absurd (e0.symm.trans q) (by decide)) (fun q => absurd (e0.symm.trans q) (by decide)), 8, by decide, e0⟩
  · rw [fT_9] at h
    exact ⟨fun q => absurd (e0.symm.trans q) (by decide), fun q => absurd (e0.symm.trans q) (by decide), fun q => absurd (e0.symm.trans q) (by decide), fun q => q.elim (fun q => absurd (e0.symm.trans q) (by decide)) (fun q => absurd (e0.symm.trans q) (by decide)), fun q => absurd (e0.symm.trans q) (by decide), fun q => q.elim (fun q => absurd (e0.symm.trans q) (by decide)) (fun q => absurd (e0.symm.trans q) (by decide)), fun q => absurd (e0.symm.trans q) (by decide), fun q => q.elim (fun q => absurd (e0.symm.trans q) (by decide)) (fun q => absurd (e0.symm.trans q) (by decide)), fun q => q.elim (fun q => absurd (e0.symm.trans q) (by decide)) (fun q => absurd (e0.symm.trans q) (by decide)), fun q => q.elim (fun q => absurd (e0.symm.trans q) (by decide)) (fun q => absurd (e0.symm.trans q) (by decide)), 9, by decide, e0⟩
  · rw [fT_10] at h
    exact ⟨fun q => absurd (e0.symm.trans q) (by decide), fun q => absurd (e0.symm.trans q) (by decide), fun q => absurd (e0.symm.trans q) (by decide), fun q => q.elim (fun q => absurd (e0.symm.trans q) (by decide)) (fun q => absurd (e0.symm.trans q) (by decide)), fun q => absurd (e0.symm.trans q) (by decide), fun q => q.elim (fun q => absurd (e0.symm.trans q) (by decide)) (fun q => absurd (e0.symm.trans q) (by decide)), fun q => absurd (e0.symm.trans q) (by decide), fun q => q.elim (fun q => absurd (e0.symm.trans q) (by decide)) (fun q => absurd (e0.symm.trans q) (by decide)), fun q => q.elim (fun q => absurd (e0.symm.trans q) (by decide)) (fun q => absurd (e0.symm.trans q) (by decide)), fun q => q.elim (fun q => absurd (e0.symm.trans q) (by decide)) (fun q => absurd (e0.symm.trans q) (by decide)), 10, by decide, e0⟩
  · rw [fT_11] at h
    obtain ⟨z1, h⟩ := ite1 h
    obtain ⟨z2, h⟩ := ite1 h
    obtain ⟨z3, h⟩ := ite1 h
    obtain ⟨j, j1, j2⟩ := fIn_lt 7 (by decide) z1
    obtain ⟨l, l1, l2⟩ := fIn_lt 7 (by decide) z3
    exact ⟨fun q => absurd (e0.symm.trans q) (by decide), fun _ => ⟨j, l, j1, l1, j2, l2⟩, fun q => absurd (e0.symm.trans q) (by decide), fun q => q.elim (fun q => absurd (e0.symm.trans q) (by decide)) (fun q => absurd (e0.symm.trans q) (by decide)), fun q => absurd (e0.symm.trans q) (by decide), fun q => q.elim (fun q => absurd (e0.symm.trans q) (by decide)) (fun q => absurd (e0.symm.trans q) (by decide)), fun q => absurd (e0.symm.trans q) (by decide), fun q => q.elim (fun q => absurd (e0.symm.trans q) (by decide)) (fun q => absurd (e0.symm.trans q) (by decide)), fun q => q.elim (fun q => absurd (e0.symm.trans q) (by decide)) (fun q => absurd (e0.symm.trans q) (by decide)), fun q => q.elim (fun q => absurd (e0.symm.trans q) (by decide)) (fun q => absurd (e0.symm.trans q) (by decide)), 11, by decide, e0⟩
  · rw [fT_12] at h
    obtain ⟨j, j1, j2⟩ := fIn_lt 3 (by decide) (by rw [show fIn a 0 (nI 3) = 1 from h]; exact i1_nz)
    exact ⟨fun q => absurd (e0.symm.trans q) (by decide), fun q => absurd (e0.symm.trans q) (by decide), fun _ => ⟨j, j1, j2⟩, fun q => q.elim (fun q => absurd (e0.symm.trans q) (by decide)) (fun q => absurd (e0.symm.trans q) (by decide)), fun q => absurd (e0.symm.trans q) (by decide), fun q => q.elim (fun q => absurd (e0.symm.trans q) (by decide)) (fun q => absurd (e0.symm.trans q) (by decide)), fun q => absurd (e0.symm.trans q) (by decide), fun q => q.elim (fun q => absurd (e0.symm.trans q) (by decide)) (fun q => absurd (e0.symm.trans q) (by decide)), fun q => q.elim (fun q => absurd (e0.symm.trans q) (by decide)) (fun q => absurd (e0.symm.trans q) (by decide)), fun q => q.elim (fun q => absurd (e0.symm.trans q) (by decide)) (fun q => absurd (e0.symm.trans q) (by decide)), 12, by decide, e0⟩
  · rw [fT_13] at h
    obtain ⟨z1, h⟩ := ite1 h
    obtain ⟨z2, h⟩ := ite1 h
    obtain ⟨j, j1, j2⟩ := fIn_lt 17 (by decide) z1
    obtain ⟨l, l1, l2⟩ := fIn_lt 7 (by decide) z2
    exact ⟨fun q => absurd (e0.symm.trans q) (by decide), fun q => absurd (e0.symm.trans q) (by decide), fun q => absurd (e0.symm.trans q) (by decide), fun _ => ⟨j, l, j1, l1, j2, l2⟩, fun q => absurd (e0.symm.trans q) (by decide), fun q => q.elim (fun q => absurd (e0.symm.trans q) (by decide)) (fun q => absurd (e0.symm.trans q) (by decide)), fun q => absurd (e0.symm.trans q) (by decide), fun q => q.elim (fun q => absurd (e0.symm.trans q) (by decide)) (fun q => absurd (e0.symm.trans q) (by decide)), fun q => q.elim (fun q => absurd (e0.symm.trans q) (by decide)) (fun q => absurd (e0.symm.trans q) (by decide)), fun q => q.elim (fun q => absurd (e0.symm.trans q) (by decide)) (fun q => absurd (e0.symm.trans q) (by decide)), 13, by decide, e0⟩
  · rw [fT_14] at h
    obtain ⟨j, j1, j2⟩ := fIn_lt 17 (by decide) (by rw [show fIn a 0 (nI 17) = 1 from h]; exact i1_nz)
    exact ⟨fun q => absurd (e0.symm.trans q) (by decide), fun q => absurd (e0.symm.trans q) (by decide), fun q => absurd (e0.symm.trans q) (by decide), fun q => q.elim (fun q => absurd (e0.symm.trans q) (by decide)) (fun q => absurd (e0.symm.trans q) (by decide)), fun _ => ⟨j, j1, j2⟩, fun q => q.elim (fun q => absurd (e0.symm.trans q) (by decide)) (fun q => absurd (e0.symm.trans q) (by decide)), fun q => absurd (e0.symm.trans q) (by decide), fun q => q.elim (fun q => absurd (e0.symm.trans q) (by decide)) (fun q => absurd (e0.symm.trans q) (by decide)), fun q => q.elim (fun q => absurd (e0.symm.trans q) (by decide)) (fun q => absurd (e0.symm.trans q) (by decide)), fun q => q.elim (fun q => absurd (e0.symm.trans q) (by decide)) (fun q => absurd (e0.symm.trans q) (by decide)), 14, by decide, e0⟩
  · rw [fT_15] at h
    obtain ⟨z1, h⟩ := ite1 h
    obtain ⟨z2, h⟩ := ite1 h
    obtain ⟨j, j1, j2⟩ := fIn_lt 17 (by decide) z1
    obtain ⟨l, l1, l2⟩ := fIn_lt 7 (by decide) z2
    exact ⟨fun q => absurd (e0.symm.trans q) (by decide), fun q => absurd (e0.symm.trans q) (by decide), fun q => absurd (e0.symm.trans q) (by decide), fun _ => ⟨j, l, j1, l1, j2, l2⟩, fun q => absurd (e0.symm.trans q) (by decide), fun q => q.elim (fun q => absurd (e0.symm.trans q) (by decide)) (fun q => absurd (e0.symm.trans q) (by decide)), fun q => absurd (e0.symm.trans q) (by decide), fun q => q.elim (fun q => absurd (e0.symm.trans q) (by decide)) (fun q => absurd (e0.symm.trans q) (by decide)), fun q => q.elim (fun q => absurd (e0.symm.trans q) (by decide)) (fun q => absurd (e0.symm.trans q) (by decide)), fun q => q.elim (fun q => absurd (e0.symm.trans q) (by decide)) (fun q => absurd (e0.symm.trans q) (by decide)), 15, by decide, e0⟩
  · rw [fT_16] at h
    obtain ⟨z1, h⟩ := ite1 h
    obtain ⟨z2, h⟩ := ite1 h
    obtain ⟨z3, h⟩ := ite1 h
    obtain ⟨j, j1, j2⟩ := fIn_lt 17 (by decide) z1
    obtain ⟨l, l1, l2⟩ := fIn_lt 7 (by decide) z2
    obtain ⟨m, m1, m2⟩ := fIn_lt 7 (by decide) z3
    exact ⟨fun q => absurd (e0.symm.trans q) (by decide), fun q => absurd (e0.symm.trans q) (by decide), fun q => absurd (e0.symm.trans q) (by decide), fun q => q.elim (fun q => absurd (e0.symm.trans q) (by decide)) (fun q => absurd (e0.symm.trans q) (by decide)), fun q => absurd (e0.symm.trans q) (by decide), fun _ => ⟨j, l, m, j1, l1, m1, j2, l2, m2⟩, fun q => absurd (e0.symm.trans q) (by decide), fun q => q.elim (fun q => absurd (e0.symm.trans q) (by decide)) (fun q => absurd (e0.symm.trans q) (by decide)), fun q => q.elim (fun q => absurd (e0.symm.trans q) (by decide)) (fun q => absurd (e0.symm.trans q) (by decide)), fun q => q.elim (fun q => absurd (e0.symm.trans q) (by decide)) (fun q => absurd (e0.symm.trans q) (by decide)), 16, by decide, e0⟩
  · rw [fT_17] at h
    obtain ⟨z1, h⟩ := ite1 h
    obtain ⟨z2, h⟩ := ite1 h
    obtain ⟨z3, h⟩ := ite1 h
    obtain ⟨j, j1, j2⟩ := fIn_lt 17 (by decide) z1
    obtain ⟨l, l1, l2⟩ := fIn_lt 7 (by decide) z2
    obtain ⟨m, m1, m2⟩ := fIn_lt 7 (by decide) z3
    exact ⟨fun q => absurd (e0.symm.trans q) (by decide), fun q => absurd (e0.symm.trans q) (by decide), fun q => absurd (e0.symm.trans q) (by decide), fun q => q.elim (fun q => absurd (e0.symm.trans q) (by decide)) (fun q => absurd (e0.symm.trans q) (by decide)), fun q => absurd (e0.symm.trans q) (by decide), fun _ => ⟨j, l, m, j1, l1, m1, j2, l2, m2⟩, fun q => absurd (e0.symm.trans q) (by decide), fun q => q.elim (fun q => absurd (e0.symm.trans q) (by decide)) (fun q => absurd (e0.symm.trans q) (by decide)), fun q => q.elim (fun q => absurd (e0.symm.trans q) (by decide)) (fun q => absurd (e0.symm.trans q) (by decide)), fun q => q.elim (fun q => absurd (e0.symm.trans q) (by decide)) (fun q => absurd (e0.symm.trans q) (by decide)), 17, by decide, e0⟩
  · rw [fT_18] at h
    obtain ⟨z1, h⟩ := ite1 h
    obtain ⟨z2, h⟩ := ite1 h
    obtain ⟨j, j0, j1, j2⟩ := fIn_16 z1
    obtain ⟨l, l1, l2⟩ := fIn_lt 7 (by decide) z2
    exact ⟨fun q => absurd (e0.symm.trans q) (by decide), fun q => absurd (e0.symm.trans q) (by decide), fun q => absurd (e0.symm.trans q) (by decide), fun q => q.elim (fun q => absurd (e0.symm.trans q) (by decide)) (fun q => absurd (e0.symm.trans q) (by decide)), fun q => absurd (e0.symm.trans q) (by decide), fun q => q.elim (fun q => absurd (e0.symm.trans q) (by decide)) (fun q => absurd (e0.symm.trans q) (by decide)), fun _ => ⟨j, l, j0, j1, l1, j2, l2⟩, fun q => q.elim (fun q => absurd (e0.symm.trans q) (by decide)) (fun q => absurd (e0.symm.trans q) (by decide)), fun q => q.elim (fun q => absurd (e0.symm.trans q) (by decide)) (fun q => absurd (e0.symm.trans q) (by decide)), fun q => q.elim (fun q => absurd (e0.symm.trans q) (by decide)) (fun q => absurd (e0.symm.trans q) (by decide)), 18, by decide, e0⟩
  · rw [fT_19] at h
    obtain ⟨j, j1, j2⟩ := fIn_lt 7 (by decide) (by rw [show fIn a 0 (nI 7) = 1 from h]; exact i1_nz)
    exact ⟨fun q => absurd (e0.symm.trans q) (by decide), fun q => absurd (e0.symm.trans q) (by decide), fun q => absurd (e0.symm.trans q) (by decide), fun q => q.elim (fun q => absurd (e0.symm.trans q) (by decide)) (fun q => absurd (e0.symm.trans q) (by decide)), fun q => absurd (e0.symm.trans q) (by decide), fun q => q.elim (fun q => absurd (e0.symm.trans q) (by decide)) (fun q => absurd (e0.symm.trans q) (by decide)), fun q => absurd (e0.symm.trans q) (by decide), fun _ => ⟨j, j1, j2⟩, fun q => q.elim (fun q => absurd (e0.symm.trans q) (by decide)) (fun q => absurd (e0.symm.trans q) (by decide)), fun q => q.elim (fun q => absurd (e0.symm.trans q) (by decide)) (fun q => absurd (e0.symm.trans q) (by decide)), 19, by decide, e0⟩
  · rw [fT_20] at h
    obtain ⟨z1, h⟩ := ite1 h
    obtain ⟨z2, h⟩ := ite1 h
    obtain ⟨z3, h⟩ := ite1 h
    obtain ⟨j, j1, j2⟩ := fIn_lt 13 (by decide) z1
    obtain ⟨l, l1, l2⟩ := fIn_lt 7 (by decide) z2
    obtain ⟨m, m1, m2⟩ := fIn_lt 7 (by decide) z3
    exact ⟨fun q => absurd (e0.symm.trans q) (by decide), fun q => absurd (e0.symm.trans q) (by decide), fun q => absurd (e0.symm.trans q) (by decide), fun q => q.elim (fun q => absurd (e0.symm.trans q) (by decide)) (fun q => absurd (e0.symm.trans q) (by decide)), fun q => absurd (e0.symm.trans q) (by decide), fun q => q.elim (fun q => absurd (e0.symm.trans q) (by decide)) (fun q => absurd (e0.symm.trans q) (by decide)), fun q => absurd (e0.symm.trans q) (by decide), fun q => q.elim (fun q => absurd (e0.symm.trans q) (by decide)) (fun q => absurd (e0.symm.trans q) (by decide)), fun _ => ⟨j, l, m, j1, l1, m1, j2, l2, m2⟩, fun q => q.elim (fun q => absurd (e0.symm.trans q) (by decide)) (fun q => absurd (e0.symm.trans q) (by decide)), 20, by decide, e0⟩
  · rw [fT_21] at h
    obtain ⟨z1, h⟩ := ite1 h
    obtain ⟨z2, h⟩ := ite1 h
    obtain ⟨z3, h⟩ := ite1 h
    obtain ⟨j, j1, j2⟩ := fIn_lt 13 (by decide) z1
    obtain ⟨l, l1, l2⟩ := fIn_lt 7 (by decide) z2
    obtain ⟨m, m1, m2⟩ := fIn_lt 7 (by decide) z3
    exact ⟨fun q => absurd (e0.symm.trans q) (by decide), fun q => absurd (e0.symm.trans q) (by decide), fun q => absurd (e0.symm.trans q) (by decide), fun q => q.elim (fun q => absurd (e0.symm.trans q) (by decide)) (fun q => absurd (e0.symm.trans q) (by decide)), fun q => absurd (e0.symm.trans q) (by decide), fun q => q.elim (fun q => absurd (e0.symm.trans q) (by decide)) (fun q => absurd (e0.symm.trans q) (by decide)), fun q => absurd (e0.symm.trans q) (by decide), fun q => q.elim (fun q => absurd (e0.symm.trans q) (by decide)) (fun q => absurd (e0.symm.trans q) (by decide)), fun _ => ⟨j, l, m, j1, l1, m1, j2, l2, m2⟩, fun q => q.elim (fun q => absurd (e0.symm.trans q) (by decide)) (fun q => absurd (e0.symm.trans q) (by decide)), 21, by decide, e0⟩
  · rw [fT_22] at h
    obtain ⟨z1, h⟩ := ite1 h
    obtain ⟨z2, h⟩ := ite1 h
    obtain ⟨z3, h⟩ := ite1 h
    obtain ⟨j, j1, j2⟩ := fIn_lt 7 (by decide) z1
    obtain ⟨l, l1, l2⟩ := fIn_lt 7 (by decide) z2
    obtain ⟨m, m1, m2⟩ := fIn_lt 7 (by decide) z3
    exact ⟨fun q => absurd (e0.symm.trans q) (by decide), fun q => absurd (e0.symm.trans q) (by decide), fun q => absurd (e0.symm.trans q) (by decide), fun q => q.elim (fun q => absurd (e0.symm.trans q) (by decide)) (fun q => absurd (e0.symm.trans q) (by decide)), fun q => absurd (e0.symm.trans q) (by decide), fun q => q.elim (fun q => absurd (e0.symm.trans q) (by decide)) (fun q => absurd (e0.symm.trans q) (by decide)), fun q => absurd (e0.symm.trans q) (by decide), fun q => q.elim (fun q => absurd (e0.symm.trans q) (by decide)) (fun q => absurd (e0.symm.trans q) (by decide)), fun q => q.elim (fun q => absurd (e0.symm.trans q) (by decide)) (fun q => absurd (e0.symm.trans q) (by decide)), fun _ => ⟨j, l, m, j1, l1, m1, j2, l2, m2⟩, 22, by decide, e0⟩
  · rw [fT_23] at h
    obtain ⟨z1, h⟩ := ite1 h
    obtain ⟨z2, h⟩ := ite1 h
    obtain ⟨z3, h⟩ := ite1 h
    obtain ⟨j, j1, j2⟩ := fIn_lt 7 (by decide) z1
    obtain ⟨l, l1, l2⟩ := fIn_lt 7 (by decide) z2
    obtain ⟨m, m1, m2⟩ := fIn_lt 7 (by decide) z3
    exact ⟨fun q => absurd (e0.symm.trans q) (by decide), fun q => absurd (e0.symm.trans q) (by decide), fun q => absurd (e0.symm.trans q) (by decide), fun q => q.elim (fun q => absurd (e0.symm.trans q) (by decide)) (fun q => absurd (e0.symm.trans q) (by decide)), fun q => absurd (e0.symm.trans q) (by decide), fun q => q.elim (fun q => absurd (e0.symm.trans q) (by decide)) (fun q => absurd (e0.symm.trans q) (by decide)), fun q => absurd (e0.symm.trans q) (by decide), fun q => q.elim (fun q => absurd (e0.symm.trans q) (by decide)) (fun q => absurd (e0.symm.trans q) (by decide)), fun q => q.elim (fun q => absurd (e0.symm.trans q) (by decide)) (fun q => absurd (e0.symm.trans q) (by decide)), fun _ => ⟨j, l, m, j1, l1, m1, j2, l2, m2⟩, 23, by decide, e0⟩
  · rw [fT_24] at h
    obtain ⟨j, j1, j2⟩ := fIn_lt 7 (by decide) (by rw [show fIn a 0 (nI 7) = 1 from h]; exact i1_nz)
    exact ⟨fun q => absurd (e0.symm.trans q) (by decide), fun q => absurd (e0.symm.trans q) (by decide), fun q => absurd (e0.symm.trans q) (by decide), fun q => q.elim (fun q => absurd (e0.symm.trans q) (by decide)) (fun q => absurd (e0.symm.trans q) (by decide)), fun q => absurd (e0.symm.trans q) (by decide), fun q => q.elim (fun q => absurd (e0.symm.trans q) (by decide)) (fun q => absurd (e0.symm.trans q) (by decide)), fun q => absurd (e0.symm.trans q) (by decide), fun _ => ⟨j, j1, j2⟩, fun q => q.elim (fun q => absurd (e0.symm.trans q) (by decide)) (fun q => absurd (e0.symm.trans q) (by decide)), fun q => q.elim (fun q => absurd (e0.symm.trans q) (by decide)) (fun q => absurd (e0.symm.trans q) (by decide)), 24, by decide, e0⟩
/-! ===== what holds of a routine between calls ===== -/
def MBk (A : Nat → Nat → Int32) (r : Nat) (bs : List (Nat × Nat × Nat)) : Prop := ∀ k, k < bs.length → A 8 (6 * r + k) = nI (40 * r + (nth bs k).1) ∧ A 9 (6 * r + k) = nI (40 * r + (nth bs k).2.1) ∧ A 10 (6 * r + k) = nI (nth bs k).2.2
def RT (g : GE) (P : PG) (O : Nat → Nat) (w : GW) (A : Nat → Nat → Int32) (r s : Nat) (bs : List (Nat × Nat × Nat)) : Prop :=
  PR1 g P w A r s ∧ (∀ i, i < s → O (pQ P r i) = 4 + (40 * r + i)) ∧ A 7 r = nI bs.length ∧ BC g P O w r bs (gR w 322 (aRt g r)) ∧ MBk A r bs ∧ CTX (fun i => A 0 (40 * r + i)) (pN P r) (pE P r) bs s
theorem RT_len {g : GE} {P : PG} {O : Nat → Nat} {w : GW} {A : Nat → Nat → Int32} {r s : Nat} {bs : List (Nat × Nat × Nat)} (h : RT g P O w A r s bs) : bs.length ≤ 6 ∧ ∀ b ∈ bs, b.1 ≤ b.2.1 ∧ b.2.1 < s ∧ b.2.2 ≤ 3 ∧ (A 0 (40 * r + b.1) = 4 → b.2.1 = b.1) := by
  obtain ⟨n, l, c, f, k, hC, hW⟩ := h.2.2.2.2.2
  have h1 := CT_len bs _ _ _ _ hC
  have h2 := WS_le hW
  refine ⟨by omega, fun b hb => ?_⟩
  obtain ⟨a1, a2, a3, a4⟩ := CT_at bs _ _ _ _ hC b hb
  exact ⟨a1, by omega, a3, a4⟩
theorem RT_sok {g : GE} {P : PG} {O : Nat → Nat} {w : GW} {A : Nat → Nat → Int32} {r s : Nat} {bs : List (Nat × Nat × Nat)} (h : RT g P O w A r s bs) : ∀ b ∈ bs, SOK g P w (fun i => A 0 (40 * r + i)) r b := by
  intro b hb
  obtain ⟨a1, a2, a3, a4⟩ := (RT_len h).2 b hb
  obtain ⟨-, -, -, -, h5, -, -⟩ := h.1
  obtain ⟨-, y1, y2, -⟩ := h5 b.1 (by omega)
  obtain ⟨-, z1, z2, -⟩ := h5 b.2.1 a2
  exact ⟨y1, y2, z1, z2⟩
theorem RT_pr {g : GE} {P : PG} {O : Nat → Nat} {w : GW} {A : Nat → Nat → Int32} (h : ∀ r, r < 4 → ∃ s bs, RT g P O w A r s bs) : PR g P w A := by
  intro r hr
  obtain ⟨s, bs, hR⟩ := h r hr
  have hl := (RT_len hR).1
  refine ⟨s, hR.1, ⟨bs.length, hl, hR.2.2.1⟩, fun h0 => ?_⟩
  have e : bs.length = 0 := (nI_eq (b := 0) (by omega) (by decide)).mp (hR.2.2.1.symm.trans h0)
  have e2 := List.length_eq_zero_iff.mp e
  subst e2
  exact CTX_done hR.2.2.2.2.2
theorem RT_mx {g : GE} {P : PG} {O : Nat → Nat} {w : GW} {σ : MW} {r s : Nat} {bs : List (Nat × Nat × Nat)} (hr : r < 4) (ha : mI σ 11 = nI r) (h : RT g P O w (mA σ) r s bs) : MX σ r bs ∧ (∀ j, j < bs.length → mA σ 0 (40 * r + (nth bs j).1) = 4 → ¬ mA σ 0 (40 * r + (nth bs j).2.1) = 3) := by
  obtain ⟨hl, hb⟩ := RT_len h
  have hs := h.1.1
  refine ⟨⟨ha, hr, h.2.2.1, hl, fun k hk => ?_⟩, fun j hj h4 h3 => ?_⟩
  · obtain ⟨a1, a2, a3, a4⟩ := hb _ (nth_mem hk)
    obtain ⟨b1, b2, b3⟩ := h.2.2.2.2.1 k hk
    exact ⟨b1, b2, b3, by omega, by omega, a3⟩
  · obtain ⟨a1, a2, a3, a4⟩ := hb _ (nth_mem hj)
    rw [a4 h4, h4] at h3
    exact absurd h3 (by decide)
/-- what is of routine r's own steps and blocks -/
def own (O : Nat → Nat) (r a : Nat) : Prop := O a = r ∨ ∃ i : Nat, i < 40 ∧ O a = 4 + (40 * r + i)
/-- what a call of 'step' on routine r may change -/
def SFr (g : GE) (O : Nat → Nat) (r : Nat) (w w' : GW) : Prop :=
  gN w ≤ gN w' ∧ (∀ a, a < gN w → gK w' a = gK w a) ∧ gL w' = gL w ∧ gD w' = gD w ∧ gA w' = gA w ∧ (∀ a i, ¬ a = aSt g r → gP w' a i = gP w a i) ∧
  (∀ c a, a < gN w → ¬ c = 67 → ¬ c = 323 → ¬ c = 324 → ¬ c = 454 → gI w' c a = gI w c a) ∧ (∀ c a, a < gN w → ¬ c = 66 → ¬ c = 322 → ¬ c = 455 → gR w' c a = gR w c a) ∧
  (∀ c a, a < gN w → (a < eB g + 99 ∨ ¬ own O r a) → ¬ a = aRt g r → gI w' c a = gI w c a ∧ gR w' c a = gR w c a)
theorem SFr_refl (g : GE) (O : Nat → Nat) (r : Nat) (w : GW) : SFr g O r w w := ⟨Nat.le_refl _, fun _ _ => rfl, rfl, rfl, rfl, fun _ _ _ => rfl, fun _ _ _ _ _ _ _ => rfl, fun _ _ _ _ _ _ => rfl, fun _ _ _ _ _ => ⟨rfl, rfl⟩⟩
theorem SFr.ob {g : GE} {O : Nat → Nat} {r : Nat} {w w' : GW} (h : SFr g O r w w') {a k : Nat} (ha : gOb g w a k) : gOb g w' a k := ⟨ha.1, Nat.lt_of_lt_of_le ha.2.1 h.1, by rw [h.2.1 a ha.2.1]; exact ha.2.2⟩
theorem aSt_4 {g : GE} {r : Nat} : ¬ eB g + 4 = aSt g r ∧ ¬ eB g + 11 = aSt g r := by unfold aSt; split <;> omega
theorem SFr.sk {g : GE} {O : Nat → Nat} {r : Nat} {w w' : GW} (h : SFr g O r w w') (hr : r < 4) (hS : SK g w) : SK g w' := by
  obtain ⟨a1, a2, a3, a4, a5, a6, a7, a8, a9⟩ := h
  obtain ⟨s1, s2, s3, s4, s5, s6⟩ := hS
  refine ⟨by omega, fun i k hi => ?_, fun i n hi hk => ?_, fun e he => ?_, fun e he => ?_, fun e he => ?_⟩
  · have : i < 99 := by rw [← kTab_len]; exact (List.getElem?_eq_some_iff.mp hi).1
    rw [a2 _ (by omega)]; exact s2 i k hi
  · rw [a3]; exact s3 i n hi hk
  · have h1 : e.2.1 < 99 ∧ e.1 ≠ 66 ∧ e.1 ≠ 322 ∧ e.1 ≠ 455 := by
      have : ∀ e ∈ rTab, e.2.1 < 99 ∧ e.1 ≠ 66 ∧ e.1 ≠ 322 ∧ e.1 ≠ 455 := by decide +kernel
      exact this e he
    rw [a8 _ _ (by omega) h1.2.1 h1.2.2.1 h1.2.2.2]; exact s4 e he
  · have h1 : e.1 = 4 ∨ e.1 = 11 := by
      have : ∀ e ∈ pTab, e.1 = 4 ∨ e.1 = 11 := by decide +kernel
      exact this e he
    have h2 : ¬ eB g + e.1 = aSt g r := by
      rcases h1 with q | q <;> rw [q]
      · exact aSt_4.1
      · exact aSt_4.2
    rw [a6 _ _ h2]; exact s5 e he
  · have h1 : e.2.1 < 99 ∧ (e.1 = 320 ∨ e.1 = 384) := by
      have : ∀ e ∈ iTab, e.2.1 < 99 ∧ (e.1 = 320 ∨ e.1 = 384) := by decide +kernel
      exact this e he
    rw [a7 _ _ (by omega) (by omega) (by omega) (by omega) (by omega)]; exact s6 e he
theorem aRt_inj {g : GE} {r r' : Nat} (h : ¬ r = r') : ¬ aRt g r = aRt g r' := by unfold aRt; split <;> split <;> omega
theorem aSt_inj {g : GE} {r r' : Nat} (h : ¬ r = r') : ¬ aSt g r = aSt g r' := by unfold aSt; split <;> split <;> omega
theorem ob_99 {g : GE} {w : GW} (hS : SK g w) {a k : Nat} (h : gOb g w a k) (hk : k = 1 ∨ k = 7) : eB g + 99 ≤ a := by
  rcases Nat.lt_or_ge a (eB g + 99) with q | q
  · exfalso
    have ha := h.1
    obtain ⟨i, rfl⟩ : ∃ i, a = eB g + i := ⟨a - eB g, by omega⟩
    have hi : i < 99 := by omega
    have hk2 : ∀ i, i < 99 → ∃ kk, kTab[i]? = some kk ∧ ¬ kk = 1 ∧ ¬ kk = 7 := by
      intro i hi
      have hall : ∀ x ∈ kTab, ¬ x = 1 ∧ ¬ x = 7 := by decide +kernel
      refine ⟨kTab[i]'(by rw [kTab_len]; exact hi), List.getElem?_eq_getElem _, ?_⟩
      exact hall _ (List.getElem_mem _)
    obtain ⟨kk, e1, e2, e3⟩ := hk2 i hi
    have e4 := hS.2.1 i kk e1
    rw [h.2.2] at e4
    omega
  · exact q
/-- another routine stays as it is -/
theorem RT_other {g : GE} {P P' : PG} {O O' : Nat → Nat} {w w' : GW} {A A' : Nat → Nat → Int32} {r r' s' : Nat} {bs' : List (Nat × Nat × Nat)} (hS : SK g w) (hr' : r' < 4) (hne : ¬ r' = r) (hF : SFr g O r w w') (hQ : pQ P' r' = pQ P r') (hN : pN P' r' = pN P r') (hE : pE P' r' = pE P r') (hO : ∀ a, a < gN w → O' a = O a)
    (hA1 : ∀ j i, j ≤ 5 → i < 40 → A' j (40 * r' + i) = A j (40 * r' + i)) (hA2 : A' 6 r' = A 6 r' ∧ A' 7 r' = A 7 r') (hA3 : ∀ j k, 8 ≤ j → j ≤ 10 → k < 6 → A' j (6 * r' + k) = A j (6 * r' + k)) (hr4 : r < 4) (h : RT g P O w A r' s' bs') : RT g P' O' w' A' r' s' bs' := by
  obtain ⟨hl, -⟩ := RT_len h
  obtain ⟨⟨h1, h2, h3, h4, h5, h6, h7⟩, hOw, h8, h9, h10, h11⟩ := h
  obtain ⟨oR, oS, lS, rS, iR, pR⟩ := hS.rt hr'
  obtain ⟨f1, f2, f3, f4, f5, f6, f7, f8, f9⟩ := id hF
  have eR := fun c => f9 c (aRt g r') oR.2.1 (Or.inl (by unfold aRt; split <;> omega)) (aRt_inj hne)
  have eQ : ∀ i, i < s' → ∀ c, gI w' c (pQ P r' i) = gI w c (pQ P r' i) ∧ gR w' c (pQ P r' i) = gR w c (pQ P r' i) := fun i hi c => by
    obtain ⟨q1, q2, -⟩ := h5 i hi
    have ho := hOw i hi
    refine f9 c _ q2.2.1 (Or.inr ?_) (fun z => ?_)
    · unfold own
      rintro (z | ⟨k, hk, z⟩) <;> omega
    · have := ob_99 hS q2 (Or.inr rfl)
      rw [z] at this
      revert this
      unfold aRt
      split <;> omega
  refine ⟨⟨h1, by rw [(eR _).1]; exact h2, by rw [hA2.1]; exact h3, by rw [(eR _).1, hA2.2]; exact h4, fun i hi => ?_, fun i j hi hj => ?_, fun i hi => ?_⟩, fun i hi => ?_, by rw [hA2.2]; exact h8, ?_, fun k hk => ?_, ?_⟩
  · obtain ⟨q1, q2, q3, q4, q5, q6, q7, q8, q9, q10, q11⟩ := h5 i hi
    rw [hQ, hE, hN]
    refine ⟨by rw [f6 _ _ (aSt_inj hne)]; exact q1, hF.ob q2, ?_, ?_, ?_, ?_, ?_, ?_, ?_, ?_, argOK_same (hA1 _ _ (by omega) (by omega)) (hA1 _ _ (by omega) (by omega)) (hA1 _ _ (by omega) (by omega)) (hA1 _ _ (by omega) (by omega)) q11⟩
    · rw [(eQ i hi _).1, hA1 _ _ (by omega) (by omega)]; exact q3
    · rw [(eQ i hi _).1, hA1 _ _ (by omega) (by omega)]; exact q4
    · rw [(eQ i hi _).1, hA1 _ _ (by omega) (by omega)]; exact q5
    · rw [(eQ i hi _).1, hA1 _ _ (by omega) (by omega)]; exact q6
    · rw [(eQ i hi _).1]; exact q7
    · rw [(eQ i hi _).1]; exact q8
    · rw [(eQ i hi _).1]; exact q9
    · rw [(eQ i hi _).2]; exact q10
  · rw [hN] at hj
    rw [hA1 _ _ (by omega) (by omega)]; exact h6 i j hi hj
  · rw [hE, hA1 _ _ (by omega) (by omega)]; exact h7 i hi
  · rw [hQ, hO _ (h5 i hi).2.1.2.1]; exact hOw i hi
  · rw [(eR _).2]
    have nown : ∀ a, O a = r' → ¬ own O r a := fun a h => by
      unfold own
      rintro (z | ⟨k, hk, z⟩) <;> omega
    have aux : ∀ (bs : List (Nat × Nat × Nat)) (a : Option Nat), BC g P O w r' bs a → BC g P' O' w' r' bs a := by
      intro bs
      induction bs with
      | nil => intro a h; exact h
      | cons b bs ih =>
        obtain ⟨o, p, x⟩ := b
        rintro a ⟨q, y0, y1, y2, y3, y4, y5, y6, y7⟩
        have hq := y1.2.1
        have hd : ¬ q = aRt g r := fun z => by
          have := ob_99 hS y1 (Or.inl rfl)
          rw [z] at this
          revert this
          unfold aRt
          split <;> omega
        have e := fun c => f9 c q hq (Or.inr (nown q y2)) hd
        exact ⟨q, y0, hF.ob y1, by rw [hO q hq]; exact y2, by rw [(e 64).2, hQ]; exact y3, by rw [(e 66).2, hQ]; exact y4, by rw [(e 67).1]; exact y5, by rw [(e 65).2]; exact y6, by rw [(e 65).2]; exact ih _ y7⟩
    exact aux bs' _ h9
  · obtain ⟨b1, b2, b3⟩ := h10 k hk
    exact ⟨by rw [hA3 8 k (by omega) (by omega) (by omega)]; exact b1, by rw [hA3 9 k (by omega) (by omega) (by omega)]; exact b2, by rw [hA3 10 k (by omega) (by omega) (by omega)]; exact b3⟩
  · rw [hN, hE]
    obtain ⟨n, l, c, f, k, hC, hW⟩ := h11
    have hf := WS_le hW
    exact ⟨n, l, c, f, s' + 1, CT_mv bs' n l c f (fun i z => ⟨hA1 0 i (by omega) (by omega), rfl, rfl⟩) hC, WS_mv k n l f s' c (s' + 1) hW (fun i z1 z2 => ⟨hA1 0 i (by omega) (by omega), rfl, rfl⟩) (by omega)⟩

