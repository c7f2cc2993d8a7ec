/-- every step that works is done alike (proved in the parts behind) -/
def WorkAll (g : GE) (P : PG) : Prop := ∀ (d d2 r s i c nf kk : Nat) (w : GW) (σ : MW), 8 ≤ d → 10 ≤ d2 → r < 4 → c < 200 → nf < 600 → Base g P w σ (c + 1) nf → RelL g w σ c → PR1 g P w (mA σ) r s → i < s → mI σ 30 = nI (40 * r + i) → 13 ≤ kk → kk ≤ 24 → mA σ 0 (40 * r + i) = nI kk → WOK g P d d2 w σ r i (c + 1) nf
section STEP7
variable {g : GE} {P : PG} {d2 n cl h : Nat}
theorem StpSim_of (hWk : WorkAll g P) (hd2 : 12 ≤ d2) (hcl : cl ≤ 4) (hblk : ∀ m, n = m + 1 → ∃ h0, h = h0 + 1 ∧ Sim g P d2 m cl h0) (hcall : cl < 4 → ∃ h0, h0 + 1 ≤ h ∧ Sim g P d2 6 (cl + 1) h0) : StpSim g P d2 n cl h := by
  intro d k r s i t o tr c nf l cc w σ cau hd hr hB hP hts hit hW hA hCa hcap ho
  have hi : i < s := by omega
  have hc200 := hB.2.2.2.1.1
  have hn6 : nf < 600 := by unfold Cap at hcap; omega
  have hP1 := hP.1
  obtain ⟨q1, q2, q3, q4, q5, q6, q7⟩ := stepQ hP hi
  rcases hW with hW | ⟨-, hW⟩
  · omega
  rcases hW with ⟨w1, w2, w3, w4, w5, w6⟩ | ⟨e, m, hnm, hie, het, w3, w4, w5⟩
  · have hnx : nxt P r i = i + 1 := by unfold nxt; rw [w3, if_neg (by omega)]
    refine ⟨⟨by rw [hnx]; omega, k, by rw [hnx]; exact w6⟩, ?_⟩
    by_cases h200 : c = 200
    · subst h200
      exact sim_tired (by omega) hd2 hr hB hP hi hA hn6 ho w2
    have hc : c < 200 := by omega
    obtain ⟨x1, x2, x3, x4, x5, x6, x7, x8, x9, x10, v, hv, x11⟩ := q7
    have w1' : ¬ isOpn (mA σ 0 (40 * r + i)) := w1
    have w2' : ¬ isPrt (mA σ 0 (40 * r + i)) := w2
    have w4' : mA σ 0 (40 * r + i) = 5 → l = true := w4
    have w5' : (mA σ 0 (40 * r + i) = 8 ∨ mA σ 0 (40 * r + i) = 9 ∨ mA σ 0 (40 * r + i) = 10) → cc = true := w5
    by_cases h13 : 13 ≤ v
    · have hB1 := Base_count hB hc
      have hRL : RelL g (setI w 5 (eB g + 1) (nI (c + 1))) (sI σ 34 (nI (c + 1))) c := by
        obtain ⟨n0, y1, y2, y3, y4⟩ := hB.2.2.1.2.2
        exact ⟨n0, y1, by rw [gI_setI, up2_ne _ _ (by omega)]; exact y2, by rw [mI_sI, if_neg (by decide)]; exact y3, y4⟩
      exact sim_work (kk := v) (by omega) hd2 hr hB hc hP hi hA ho h13 (by omega) x11 hnx (hWk (d - 1) (d2 - 2) r s i c nf v _ _ (by omega) (by omega) hr hc hn6 hB1 hRL (hB1.pr1 hr hP rfl) hi (by rw [mI_sI, if_neg (by decide)]; exact hA.2.2.2.2.1) h13 (by omega) x11)
    · have hh : v = 0 ∨ v = 1 ∨ v = 2 ∨ v = 3 ∨ v = 4 ∨ v = 5 ∨ v = 6 ∨ v = 7 ∨ v = 8 ∨ v = 9 ∨ v = 10 ∨ v = 11 ∨ v = 12 := by omega
      rcases hh with rfl | rfl | rfl | rfl | rfl | rfl | rfl | rfl | rfl | rfl | rfl | rfl | rfl
      · exact absurd (Or.inl x11) w2'
      · exact absurd (Or.inl x11) w1'
      · exact absurd (Or.inr (Or.inl x11)) w2'
      · exact absurd (Or.inr (Or.inr x11)) w2'
      · exact absurd (Or.inr (Or.inl x11)) w1'
      · exact sim_leave (by omega) hd2 hr hB hc hP hi hA ho x11 (w4' x11)
      · exact sim_return (by omega) hd2 hr hB hc hP hi hA ho x11
      · exact sim_throw (by omega) hd2 hr hB hc hn6 hP hi hA ho x11
      · exact sim_again (by omega) hd2 hr hB hc hn6 hP hi hA (by rw [← w5' (Or.inl x11)]; exact hCa) ho x11
      · exact sim_wrap (by omega) hd2 hr hB hc hn6 hP hi hA (by rw [← w5' (Or.inr (Or.inl x11))]; exact hCa) ho x11
      · exact sim_tell (by omega) hd2 hr hB hc hn6 hP hi hA (by rw [← w5' (Or.inr (Or.inr x11))]; exact hCa) ho x11 hnx
      · exact absurd (Or.inr (Or.inr x11)) w1'
      · obtain ⟨a, ha4, ha⟩ := x3 x11
        by_cases hT : mA σ 7 a = 0 ∧ cl < 4
        · obtain ⟨h0, hh0, hS⟩ := hcall hT.2
          exact sim_callOn hS (by omega) hd2 hr hB hc hP hi hA hh0 hcap ho x11 ha ha4 hT.2 hT.1 hnx
        · exact sim_callTired (by omega) hd2 hr hB hc hn6 hP hi hA ho x11 ha ha4 hcl (by
            by_cases h7 : mA σ 7 a = 0
            · exact Or.inr (by have : ¬ cl < 4 := fun z => hT ⟨h7, z⟩; omega)
            · exact Or.inl h7)
  · obtain ⟨hes, he4, hnx⟩ := stepE hP hi w3 hie
    refine ⟨⟨by rw [hnx]; omega, k, by rw [hnx]; exact w4⟩, ?_⟩
    by_cases h200 : c = 200
    · subst h200
      refine sim_tired (by omega) hd2 hr hB hP hi hA hn6 ho ?_
      rcases w5 with z | z | z
      · exact nPrt (x := 1) z.1 (by decide)
      · exact nPrt (x := 11) z.1 (by decide)
      · exact nPrt (x := 4) z.1 (by decide)
    have hc : c < 200 := by omega
    obtain ⟨h0, rfl, hS⟩ := hblk m hnm
    obtain ⟨x1, x2, x3, x4, x5, x6, x7, x8, x9, x10, v, hv, x11⟩ := q7
    rcases w5 with ⟨z1, z2⟩ | ⟨z1, z2, z3, z4⟩ | ⟨z1, z2, z3, z4⟩
    · exact sim_try hS hd hd2 hr hB hc hP hi hA hCa hcap ho z1 w3 hie z2
    · obtain ⟨a, b, ha8, hb8, ha, hb⟩ := x2 z1
      rcases fSo_01 (mA σ 2 (40 * r + i)) (mD σ 11 a) (mD σ 11 b) with hs | hs
      · exact sim_ifOff (by omega) hd2 hr hB hc hP hi hA ho z1 ha ha8 hb hb8 hs he4 hnx
      · exact sim_ifOn hS hd hd2 hr hB hc hP hi hA hCa hcap ho z1 ha ha8 hb hb8 hs w3 hie z2 z3 z4
    · obtain ⟨a, ha7, ha⟩ := x1 z1
      exact sim_loop hS hd hd2 hr hB hc hP hi hA hCa hcap ho z1 ha (by omega) w3 hie z2 z3 z4
end STEP7
theorem Sim_n {g : GE} {P : PG} {d2 cl : Nat} (hWk : WorkAll g P) (hd2 : 12 ≤ d2) (hcl : cl ≤ 4) (hcall : cl < 4 → Sim g P d2 6 (cl + 1) (6 + 7 * (4 - (cl + 1)))) : ∀ n, Sim g P d2 n cl (n + 7 * (4 - cl))
  | 0 => Sim_of (StpSim_of hWk hd2 hcl (fun m hm => absurd hm (by omega)) (fun h => ⟨_, by omega, hcall h⟩))
  | n + 1 => Sim_of (StpSim_of hWk hd2 hcl (fun m hm => ⟨n + 7 * (4 - cl), by omega, (Nat.succ.inj hm) ▸ Sim_n hWk hd2 hcl hcall n⟩) (fun h => ⟨_, by omega, hcall h⟩))
theorem Sim_all {g : GE} {P : PG} {d2 : Nat} (hWk : WorkAll g P) (hd2 : 12 ≤ d2) : ∀ j cl, cl + j = 4 → ∀ n, Sim g P d2 n cl (n + 7 * (4 - cl))
  | 0, cl, h => Sim_n hWk hd2 (by omega) (fun q => absurd q (by omega))
  | j + 1, cl, h => Sim_n hWk hd2 (by omega) (fun _ => Sim_all hWk hd2 j (cl + 1) (by omega) 6)
