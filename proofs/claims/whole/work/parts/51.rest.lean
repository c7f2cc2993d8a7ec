/-! ===== locals, whatever their order ===== -/
theorem lk_filter {p : Nat × Value → Bool} {j : Nat} (hp : ∀ v, p (j, v) = true) : ∀ ls : List (Nat × Value), (ls.filter p).lookup j = ls.lookup j
  | [] => rfl
  | (i, v) :: ls => by
    by_cases h : j = i
    · subst h
      rw [List.filter_cons, if_pos (hp v), List.lookup_cons, List.lookup_cons]
      simp
    · have hb : (j == i) = false := by simpa using h
      rw [List.filter_cons]
      split
      · rw [List.lookup_cons, List.lookup_cons, hb]; exact lk_filter hp ls
      · rw [List.lookup_cons, hb]; exact lk_filter hp ls
theorem lk_ls1 {ls : List (Nat × Value)} {i j : Nat} {v : Value} {x : Option Value} (h : ls.lookup j = x) (h1 : ¬ j = i) (h3 : ¬ j + 1 = i) : (ls1 ls i v).lookup j = x := by
  have hb : (j == i) = false := by simpa using h1
  unfold ls1
  rw [List.lookup_cons, hb]
  show List.lookup j (List.filter _ ls) = x
  rw [lk_filter (fun u => by simp [h1, h3]) ls]
  exact h
theorem lk_ls2 {ls : List (Nat × Value)} {i j : Nat} {v : Value} {x : Option Value} (h : ls.lookup j = x) (h1 : ¬ j = i) (h2 : ¬ j = i + 1) (h3 : ¬ j + 1 = i) : (ls2 ls i v).lookup j = x := by
  have hb : (j == i) = false := by simpa using h1
  unfold ls2
  rw [List.lookup_cons, hb]
  show List.lookup j (List.filter _ ls) = x
  rw [lk_filter (fun u => by simp [h1, h2, h3]) ls]
  exact h
theorem lk_at1 {ls : List (Nat × Value)} {i : Nat} {v : Value} : (ls1 ls i v).lookup i = some v := by
  unfold ls1; rw [List.lookup_cons]; simp
theorem lk_at2 {ls : List (Nat × Value)} {i : Nat} {v : Value} : (ls2 ls i v).lookup i = some v := by
  unfold ls2; rw [List.lookup_cons]; simp
/-! ===== Sums.rest: doubling, then taking away ===== -/
theorem zv_pos {a : UInt64} (h : zs a = false) : zv a = (zm a : Int) := by
  rcases zv_cases a with q | q
  · rw [h] at q; cases q.1
  · exact q.2
theorem z_takes {L M : UInt64} (hL : DF L) (hM : DF M) (sL : zs L = false) (sM : zs M = false) (h0 : ¬ zm M = 0) (h1 : zm M ≤ zm L) (h2 : zm L < 2 * zm M) : DF (FP.dsub L M) ∧ zs (FP.dsub L M) = false ∧ zm (FP.dsub L M) = zm L - zm M := by
  obtain ⟨r1, r2, r3⟩ := z_rem hL hM h0
  have e : zm L % zm M = zm L - zm M := by rw [Nat.mod_eq_sub_mod h1, Nat.mod_eq_of_lt (by omega)]
  have eV : zv (FP.drem L M) = zv L - zv M := by
    rw [zv_pos (by rw [r2]; exact sL), zv_pos sL, zv_pos sM, r3, e]; omega
  obtain ⟨a1, a2⟩ := z_sub hL hM r1 eV
  have a3 := zs_sub hL hM sL (by rw [zv_pos sL, zv_pos sM]; omega)
  refine ⟨a2, a3, ?_⟩
  have := zv_pos a3
  have := zv_pos sL
  have := zv_pos sM
  omega
section REST
variable {g : GE} {d : Nat} {w : GW} {Q : Option Value → GW → Prop} {x D : UInt64} {R : Nat}
set_option maxHeartbeats 4000000 in
set_option maxRecDepth 20000 in
theorem c_rest_end {L : UInt64} {ls : List (Nat × Value)} (k : Q (some (.double (if FP.dcmp x FP.dconst0 = some .lt then FP.dneg L else L))) w) (l0 : ls.lookup 0 = some (.double x)) (l6 : ls.lookup 6 = some (.double L)) : gF g d mX8_rest 121 ls [] w Q := by
  refine g_dload_n dX8_rest_121 l0 ?_
  refine g_dconst0 dX8_rest_122 ?_
  refine g_dcmp dX8_rest_123 ?_
  refine g_if_ge 133 dX8_rest_124 (by decide) (fun c1 => ?_) (fun c1 => ?_)
  · refine g_dload dX8_rest_133 l6 ?_
    refine g_dret dX8_rest_135 rfl ?_
    rw [cv_geg] at c1
    rw [if_neg c1] at k
    exact k
  · refine g_dload dX8_rest_127 l6 ?_
    refine g_dneg dX8_rest_129 ?_
    refine g_goto 135 dX8_rest_130 (by decide) ?_
    refine g_dret dX8_rest_135 rfl ?_
    rw [cv_geg, Classical.not_not] at c1
    rw [if_pos c1] at k
    exact k
set_option maxHeartbeats 4000000 in
set_option maxRecDepth 20000 in
theorem c_rest_loop2 (hD : DF D) (sD : zs D = false) (hD0 : ¬ zm D = 0) (k : ∀ L : UInt64, DF L → zs L = false → zm L = R → Q (some (.double (if FP.dcmp x FP.dconst0 = some .lt then FP.dneg L else L))) w) {N : Nat} (hN : N < 2 ^ 31) (hV : ∀ j, j < N → ∃ V : UInt64, DF V ∧ zm V = zm D * 2 ^ j) : ∀ (n : Nat) (M L : UInt64) (ls : List (Nat × Value)), n ≤ N → DF M → zs M = false → (∀ m, n = m + 1 → zm M = zm D * 2 ^ m) → DF L → zs L = false → zm L < zm D * 2 ^ n → zm L % zm D = R → ls.lookup 0 = some (.double x) → ls.lookup 4 = some (.double D) → ls.lookup 6 = some (.double L) → ls.lookup 8 = some (.double M) → ls.lookup 11 = some (.int (nI n + Int32.ofInt (-1))) → gF g d mX8_rest 79 ls [] w Q
  | 0, M, L, ls, hn, hM, sM, hm, hL, sL, hlt, hR, l0, l4, l6, l8, l11 => by
    have e0 : nI 0 + Int32.ofInt (-1) = -1 := by decide
    rw [e0] at l11
    refine g_iload dX8_rest_79 l11 ?_
    refine g_if_lt 121 dX8_rest_81 (by decide) (fun _ => ?_) (fun q => absurd (by decide) q)
    refine c_rest_end (k L hL sL ?_) l0 l6
    rw [Nat.pow_zero, Nat.mul_one] at hlt
    rw [← hR, Nat.mod_eq_of_lt hlt]
  | m + 1, M, L, ls, hn, hM, sM, hm, hL, sL, hlt, hR, l0, l4, l6, l8, l11 => by
    have e0 : nI (m + 1) + Int32.ofInt (-1) = nI m := pk_m1 m
    rw [e0] at l11
    have hM1 := hm m rfl
    have hp : 0 < 2 ^ m := Nat.two_pow_pos m
    have hM0 : ¬ zm M = 0 := by rw [hM1]; exact Nat.mul_ne_zero hD0 (by omega)
    have hlt2 : zm L < 2 * zm M := by rw [hM1, ← Nat.mul_assoc, Nat.mul_comm 2, Nat.mul_assoc, ← Nat.pow_succ']; exact hlt
    refine g_iload dX8_rest_79 l11 ?_
    refine g_if_lt 121 dX8_rest_81 (by decide) (fun q => absurd q (nI_pos (by omega))) (fun _ => ?_)
    refine g_dload dX8_rest_84 l6 ?_
    refine g_dload dX8_rest_86 l4 ?_
    refine g_dcmp dX8_rest_88 ?_
    have hnn := dcmp_nn hL hD
    have hnn2 := dcmp_nn hL hM
    refine g_if_lt 121 dX8_rest_89 (by decide) (fun c1 => ?_) (fun c1 => ?_)
    · rw [cv_ltl] at c1
      have c2 := (zc_lt hL hD).mp (c1.resolve_right hnn)
      rw [zv_pos sL, zv_pos sD] at c2
      refine c_rest_end (k L hL sL ?_) l0 l6
      rw [← hR, Nat.mod_eq_of_lt (by omega)]
    · refine g_dload dX8_rest_92 l6 ?_
      refine g_dload dX8_rest_94 l8 ?_
      refine g_dcmp dX8_rest_96 ?_
      have hq2 : vf_n64 (FP.ddiv M dTwo) := nn_div hM DF_two (fun q => two_nz q.2)
      have hdm := DF_halve hM
      have hsm : zs (FP.ddiv M dTwo) = false := by rw [(z_div hM val_2 (by decide) (by decide)).2.1]; exact sM
      have hhm : ∀ m', m = m' + 1 → zm (FP.ddiv M dTwo) = zm D * 2 ^ m' := fun m' hm' => by
        obtain ⟨V, v1, v2⟩ := hV m' (by omega)
        rw [(z_halve hM v1 (by rw [hM1, v2, hm', Nat.pow_succ', ← Nat.mul_assoc, Nat.mul_comm (zm D) 2, Nat.mul_assoc])).1, v2]
      refine g_if_lt 107 dX8_rest_97 (by decide) (fun c2 => ?_) (fun c2 => ?_)
      · rw [cv_ltl] at c2
        have c3 := (zc_lt hL hM).mp (c2.resolve_right hnn2)
        rw [zv_pos sL, zv_pos sM] at c3
        refine g_dload dX8_rest_107 l8 ?_
        refine g_ldc2d dX8_rest_109 qX8_38 ?_
        refine g_ddiv dX8_rest_112 hq2 ?_
        refine g_dstore dX8_rest_113 (by decide) rfl ?_
        refine g_iinc dX8_rest_115 (lk_ls2 l11 (by decide) (by decide) (by decide)) (by decide) rfl ?_
        refine g_goto 79 dX8_rest_118 (by decide) ?_
        refine c_rest_loop2 hD sD hD0 k hN hV m _ L _ (by omega) hdm hsm hhm hL sL (by rw [← hM1]; omega) hR ?_ ?_ ?_ ?_ lk_at1
        · exact lk_ls1 (lk_ls2 l0 (by decide) (by decide) (by decide)) (by decide) (by decide)
        · exact lk_ls1 (lk_ls2 l4 (by decide) (by decide) (by decide)) (by decide) (by decide)
        · exact lk_ls1 (lk_ls2 l6 (by decide) (by decide) (by decide)) (by decide) (by decide)
        · exact lk_ls1 lk_at2 (by decide) (by decide)
      · have c3 : zm M ≤ zm L := by
          rcases Nat.lt_or_ge (zm L) (zm M) with q | q
          · refine absurd ((cv_ltl _).mpr (Or.inl ((zc_lt hL hM).mpr ?_))) c2
            rw [zv_pos sL, zv_pos sM]; omega
          · exact q
        obtain ⟨t1, t2, t3⟩ := z_takes hL hM sL sM hM0 c3 hlt2
        refine g_dload dX8_rest_100 l6 ?_
        refine g_dload dX8_rest_102 l8 ?_
        refine g_dsub dX8_rest_104 (nn_sub hL hM) ?_
        refine g_dstore dX8_rest_105 (by decide) rfl ?_
        refine g_dload dX8_rest_107 (lk_ls2 l8 (by decide) (by decide) (by decide)) ?_
        refine g_ldc2d dX8_rest_109 qX8_38 ?_
        refine g_ddiv dX8_rest_112 hq2 ?_
        refine g_dstore dX8_rest_113 (by decide) rfl ?_
        refine g_iinc dX8_rest_115 (lk_ls2 (lk_ls2 l11 (by decide) (by decide) (by decide)) (by decide) (by decide) (by decide)) (by decide) rfl ?_
        refine g_goto 79 dX8_rest_118 (by decide) ?_
        refine c_rest_loop2 hD sD hD0 k hN hV m _ _ _ (by omega) hdm hsm hhm t1 t2 (by rw [t3, ← hM1]; omega) (by rw [t3, ← hR, hM1, Nat.sub_mul_mod (by rw [← hM1]; exact c3)]) ?_ ?_ ?_ ?_ lk_at1
        · exact lk_ls1 (lk_ls2 (lk_ls2 l0 (by decide) (by decide) (by decide)) (by decide) (by decide) (by decide)) (by decide) (by decide)
        · exact lk_ls1 (lk_ls2 (lk_ls2 l4 (by decide) (by decide) (by decide)) (by decide) (by decide) (by decide)) (by decide) (by decide)
        · exact lk_ls1 (lk_ls2 lk_at2 (by decide) (by decide) (by decide)) (by decide) (by decide)
        · exact lk_ls1 lk_at2 (by decide) (by decide)
theorem big_1200 : 1000000000000000 * zU < 2 ^ 1200 := by decide +kernel
set_option maxHeartbeats 4000000 in
set_option maxRecDepth 20000 in
theorem c_rest_loop1 {y L : UInt64} (hD : DF D) (sD : zs D = false) (hD0 : ¬ zm D = 0) (hL : DF L) (sL : zs L = false) (hLb : zm L ≤ 1000000000000000 * zU) (hR : zm L % zm D = R) (k : ∀ L : UInt64, DF L → zs L = false → zm L = R → Q (some (.double (if FP.dcmp x FP.dconst0 = some .lt then FP.dneg L else L))) w) : ∀ (m j : Nat) (M : UInt64), j + m = 1200 → DF M → zs M = false → zm M = zm D * 2 ^ j → zm M ≤ 1000000000000000 * zU → (∀ i, i < j + 1 → ∃ V : UInt64, DF V ∧ zm V = zm D * 2 ^ i) → gF g d mX8_rest 43 [(10, .int (nI j)), (8, .double M), (6, .double L), (4, .double D), (0, .double x), (2, .double y)] [] w Q
  | 0, j, M, hj, hM, sM, hm, hb, hV => by
    exfalso
    have e : j = 1200 := by omega
    subst e
    have := big_1200
    have h1 : 2 ^ 1200 ≤ zm D * 2 ^ 1200 := Nat.le_mul_of_pos_left _ (Nat.pos_of_ne_zero hD0)
    omega
  | m + 1, j, M, hj, hM, sM, hm, hb, hV => by
    obtain ⟨b1, b2⟩ := z_dbl hM sM hb
    refine g_iload dX8_rest_43 rfl ?_
    refine g_sipushV (v := 1200) dX8_rest_45 (by decide) ?_
    refine g_icmp_ge 75 dX8_rest_48 (by decide) (fun q => absurd q (nI_ge (b := 1200) (by omega) (by decide))) (fun _ => ?_)
    refine g_dload dX8_rest_51 rfl ?_
    refine g_dload dX8_rest_53 rfl ?_
    refine g_dadd dX8_rest_55 (nn_add hM hM) ?_
    refine g_dload dX8_rest_56 rfl ?_
    refine g_dcmp dX8_rest_58 ?_
    have hnn := dcmp_nn b1 hL
    refine g_if_gt 75 dX8_rest_59 (by decide) (fun c1 => ?_) (fun c1 => ?_)
    · rw [cv_gtg] at c1
      have c2 := (zc_gt b1 hL).mp (c1.resolve_right hnn)
      rw [b2, zv_pos sL] at c2
      refine g_iload dX8_rest_75 rfl ?_
      refine g_istore dX8_rest_77 (by decide) rfl ?_
      refine c_rest_loop2 hD sD hD0 k (N := j + 1) (by omega) hV (j + 1) M L _ (Nat.le_refl _) hM sM (fun m' hm' => by rw [← Nat.succ.inj hm']; exact hm) hL sL ?_ hR rfl rfl rfl rfl ?_
      · rw [Nat.pow_succ, ← Nat.mul_assoc, ← hm]; omega
      · rw [show nI (j + 1) + Int32.ofInt (-1) = nI j from pk_m1 j]; rfl
    · have c2 : 2 * (zm M : Int) ≤ (zm L : Int) := by
        rcases Int.lt_or_le (zm L : Int) (2 * (zm M : Int)) with q | q
        · refine absurd ((cv_gtg _).mpr (Or.inl ((zc_gt b1 hL).mpr ?_))) c1
          rw [b2, zv_pos sL]; exact q
        · exact q
      have sMM : zs (FP.dadd M M) = false := by
        rcases zv_cases (FP.dadd M M) with q | q
        · have h0 : ¬ zm M = 0 := by rw [hm]; exact Nat.mul_ne_zero hD0 (Nat.ne_of_gt (Nat.two_pow_pos j))
          rw [b2] at q; omega
        · exact q.1
      have zMM : zm (FP.dadd M M) = 2 * zm M := by have := zv_pos sMM; omega
      refine g_dload dX8_rest_62 rfl ?_
      refine g_dload dX8_rest_64 rfl ?_
      refine g_dadd dX8_rest_66 (nn_add hM hM) ?_
      refine g_dstore dX8_rest_67 (by decide) rfl ?_
      refine g_iinc (lz := [(10, .int (nI (j + 1))), (8, .double (FP.dadd M M)), (6, .double L), (4, .double D), (0, .double x), (2, .double y)]) dX8_rest_69 rfl (by decide) (by rw [show nI j + Int32.ofInt 1 = nI (j + 1) from nI_1 j]; rfl) ?_
      refine g_goto 43 dX8_rest_72 (by decide) ?_
      have hm2 : zm (FP.dadd M M) = zm D * 2 ^ (j + 1) := by rw [zMM, hm, Nat.pow_succ, Nat.mul_comm 2, Nat.mul_assoc]
      refine c_rest_loop1 hD sD hD0 hL sL hLb hR k m (j + 1) _ (by omega) b1 sMM hm2 (by omega) (fun i hi => ?_)
      by_cases he : i = j + 1
      · subst he; exact ⟨_, b1, hm2⟩
      · exact hV i (by omega)
end REST
theorem z_abs {x : UInt64} (h : DF x) : DF (if FP.dcmp x FP.dconst0 = some .lt then FP.dneg x else x) ∧ zm (if FP.dcmp x FP.dconst0 = some .lt then FP.dneg x else x) = zm x ∧ (¬ zm x = 0 → zs (if FP.dcmp x FP.dconst0 = some .lt then FP.dneg x else x) = false) := by
  obtain ⟨n1, n2⟩ := z_negs h
  by_cases hl : FP.dcmp x FP.dconst0 = some .lt
  · rw [if_pos hl]
    refine ⟨DF_neg h, n2, fun _ => ?_⟩
    have := (zc_lt h DF_zero).mp hl
    rw [z_0.2.2] at this
    rw [n1]
    rcases zv_cases x with q | q
    · rw [q.1]; rfl
    · omega
  · rw [if_neg hl]
    refine ⟨h, rfl, fun h0 => ?_⟩
    rcases zv_cases x with q | q
    · refine absurd ((zc_lt h DF_zero).mpr ?_) hl
      rw [z_0.2.2]; omega
    · exact q.1
theorem z_back {x L : UInt64} (h : DF x) (h0 : ¬ zm x = 0) (hL : DF L) (sL : zs L = false) : DF (if FP.dcmp x FP.dconst0 = some .lt then FP.dneg L else L) ∧ zm (if FP.dcmp x FP.dconst0 = some .lt then FP.dneg L else L) = zm L ∧ zs (if FP.dcmp x FP.dconst0 = some .lt then FP.dneg L else L) = zs x := by
  obtain ⟨n1, n2⟩ := z_negs hL
  by_cases hl : FP.dcmp x FP.dconst0 = some .lt
  · rw [if_pos hl]
    refine ⟨DF_neg hL, n2, ?_⟩
    have := (zc_lt h DF_zero).mp hl
    rw [z_0.2.2] at this
    rw [n1, sL]
    rcases zv_cases x with q | q
    · rw [q.1]; rfl
    · omega
  · rw [if_neg hl]
    refine ⟨hL, rfl, ?_⟩
    rw [sL]
    rcases zv_cases x with q | q
    · refine absurd ((zc_lt h DF_zero).mpr ?_) hl
      rw [z_0.2.2]; omega
    · exact q.1.symm
theorem zv_zero {x : UInt64} : zv x = 0 ↔ zm x = 0 := by
  rcases zv_cases x with q | q <;> omega
set_option maxHeartbeats 4000000 in
set_option maxRecDepth 20000 in
theorem c_rest {g : GE} {d : Nat} {w : GW} {Q : Option Value → GW → Prop} {x y : UInt64} (hx : dOK x) (hy : dOK y) (h0 : ¬ FP.dcmp y FP.dconst0 = some .eq) (k : Q (some (.double (FP.drem x y))) w) : gM g d mX8_rest [.double x, .double y] w Q := by
  refine gM.of (by decide) (Nat.le_of_ble_eq_true rfl) ?_
  obtain ⟨hx1, hx2⟩ := dOK_iff.mp hx
  obtain ⟨hy1, hy2⟩ := dOK_iff.mp hy
  have hy0 := nz_zm hy1 h0
  obtain ⟨r1, r2, r3⟩ := z_rem hx1 hy1 hy0
  refine g_dload_n dX8_rest_0 rfl ?_
  refine g_dconst0 dX8_rest_1 ?_
  refine g_dcmp dX8_rest_2 ?_
  refine g_if_ne 8 dX8_rest_3 (by decide) (fun c1 => ?_) (fun c1 => ?_)
  · refine g_dload_n dX8_rest_8 rfl ?_
    refine g_dconst0 dX8_rest_9 ?_
    refine g_dcmp dX8_rest_10 ?_
    refine g_if_ge 19 dX8_rest_11 (by decide) (fun c2 => ?_) (fun c2 => ?_)
    · refine g_dload_n dX8_rest_19 rfl ?_
      refine g_dstore dX8_rest_20 (by decide) rfl ?_
      refine g_dload_n dX8_rest_22 rfl ?_
      refine g_dconst0 dX8_rest_23 ?_
      refine g_dcmp dX8_rest_24 ?_
      refine g_if_ge 33 dX8_rest_25 (by decide) (fun c3 => ?_) (fun c3 => ?_)
      · refine g_dload_n dX8_rest_33 rfl ?_
        refine g_dstore dX8_rest_34 (by decide) rfl ?_
        refine g_dload dX8_rest_36 rfl ?_
        refine g_dstore dX8_rest_38 (by decide) rfl ?_
        refine g_iconstV (v := 0) dX8_rest_40 (by decide) ?_
        refine g_istore dX8_rest_41 (by decide) rfl ?_
        have hx0 : ¬ zm x = 0 := fun z => c1 ((cv_eql _).mpr ((zc_eq hx1 DF_zero).mpr (by rw [z_0.2.2]; exact zv_zero.mpr z)))
        obtain ⟨hxD, hxM, hxS⟩ := z_abs hx1
        obtain ⟨hyD, hyM, hyS⟩ := z_abs hy1
        replace hxS := hxS hx0
        replace hyS := hyS hy0
        rw [cv_geg] at c2 c3
        rw [if_neg c3] at hxD hxM hxS
        rw [if_neg c2] at hyD hyM hyS
        refine c_rest_loop1 (R := zm x % zm y) hyD hyS (by rw [hyM]; exact hy0) hxD hxS (by rw [hxM]; exact hx2) (by rw [hxM, hyM]) (fun L hL sL zL => ?_) 1200 0 _ (by omega) hyD hyS (by rw [Nat.pow_zero, Nat.mul_one]) (by rw [hyM]; exact hy2) (fun i hi => ⟨_, hyD, by rw [show i = 0 by omega, Nat.pow_zero, Nat.mul_one]⟩)
        obtain ⟨b1, b2, b3⟩ := z_back hx1 hx0 hL sL
        rw [z_ext b1 r1 (by rw [b3, r2]) (by rw [b2, r3, zL])]
        exact k
      · refine g_dload_n dX8_rest_28 rfl ?_
        refine g_dneg dX8_rest_29 ?_
        refine g_goto 34 dX8_rest_30 (by decide) ?_
        refine g_dstore dX8_rest_34 (by decide) rfl ?_
        refine g_dload dX8_rest_36 rfl ?_
        refine g_dstore dX8_rest_38 (by decide) rfl ?_
        refine g_iconstV (v := 0) dX8_rest_40 (by decide) ?_
        refine g_istore dX8_rest_41 (by decide) rfl ?_
        have hx0 : ¬ zm x = 0 := fun z => c1 ((cv_eql _).mpr ((zc_eq hx1 DF_zero).mpr (by rw [z_0.2.2]; exact zv_zero.mpr z)))
        obtain ⟨hxD, hxM, hxS⟩ := z_abs hx1
        obtain ⟨hyD, hyM, hyS⟩ := z_abs hy1
        replace hxS := hxS hx0
        replace hyS := hyS hy0
        rw [cv_geg] at c2 c3
        rw [Classical.not_not] at c3
        rw [if_pos c3] at hxD hxM hxS
        rw [if_neg c2] at hyD hyM hyS
        refine c_rest_loop1 (R := zm x % zm y) hyD hyS (by rw [hyM]; exact hy0) hxD hxS (by rw [hxM]; exact hx2) (by rw [hxM, hyM]) (fun L hL sL zL => ?_) 1200 0 _ (by omega) hyD hyS (by rw [Nat.pow_zero, Nat.mul_one]) (by rw [hyM]; exact hy2) (fun i hi => ⟨_, hyD, by rw [show i = 0 by omega, Nat.pow_zero, Nat.mul_one]⟩)
        obtain ⟨b1, b2, b3⟩ := z_back hx1 hx0 hL sL
        rw [z_ext b1 r1 (by rw [b3, r2]) (by rw [b2, r3, zL])]
        exact k
    · refine g_dload_n dX8_rest_14 rfl ?_
      refine g_dneg dX8_rest_15 ?_
      refine g_goto 20 dX8_rest_16 (by decide) ?_
      refine g_dstore dX8_rest_20 (by decide) rfl ?_
      refine g_dload_n dX8_rest_22 rfl ?_
      refine g_dconst0 dX8_rest_23 ?_
      refine g_dcmp dX8_rest_24 ?_
      refine g_if_ge 33 dX8_rest_25 (by decide) (fun c4 => ?_) (fun c4 => ?_)
      · refine g_dload_n dX8_rest_33 rfl ?_
        refine g_dstore dX8_rest_34 (by decide) rfl ?_
        refine g_dload dX8_rest_36 rfl ?_
        refine g_dstore dX8_rest_38 (by decide) rfl ?_
        refine g_iconstV (v := 0) dX8_rest_40 (by decide) ?_
        refine g_istore dX8_rest_41 (by decide) rfl ?_
        have hx0 : ¬ zm x = 0 := fun z => c1 ((cv_eql _).mpr ((zc_eq hx1 DF_zero).mpr (by rw [z_0.2.2]; exact zv_zero.mpr z)))
        obtain ⟨hxD, hxM, hxS⟩ := z_abs hx1
        obtain ⟨hyD, hyM, hyS⟩ := z_abs hy1
        replace hxS := hxS hx0
        replace hyS := hyS hy0
        rw [cv_geg] at c2 c4
        rw [Classical.not_not] at c2
        rw [if_neg c4] at hxD hxM hxS
        rw [if_pos c2] at hyD hyM hyS
        refine c_rest_loop1 (R := zm x % zm y) hyD hyS (by rw [hyM]; exact hy0) hxD hxS (by rw [hxM]; exact hx2) (by rw [hxM, hyM]) (fun L hL sL zL => ?_) 1200 0 _ (by omega) hyD hyS (by rw [Nat.pow_zero, Nat.mul_one]) (by rw [hyM]; exact hy2) (fun i hi => ⟨_, hyD, by rw [show i = 0 by omega, Nat.pow_zero, Nat.mul_one]⟩)
        obtain ⟨b1, b2, b3⟩ := z_back hx1 hx0 hL sL
        rw [z_ext b1 r1 (by rw [b3, r2]) (by rw [b2, r3, zL])]
        exact k
      · refine g_dload_n dX8_rest_28 rfl ?_
        refine g_dneg dX8_rest_29 ?_
        refine g_goto 34 dX8_rest_30 (by decide) ?_
        refine g_dstore dX8_rest_34 (by decide) rfl ?_
        refine g_dload dX8_rest_36 rfl ?_
        refine g_dstore dX8_rest_38 (by decide) rfl ?_
        refine g_iconstV (v := 0) dX8_rest_40 (by decide) ?_
        refine g_istore dX8_rest_41 (by decide) rfl ?_
        have hx0 : ¬ zm x = 0 := fun z => c1 ((cv_eql _).mpr ((zc_eq hx1 DF_zero).mpr (by rw [z_0.2.2]; exact zv_zero.mpr z)))
        obtain ⟨hxD, hxM, hxS⟩ := z_abs hx1
        obtain ⟨hyD, hyM, hyS⟩ := z_abs hy1
        replace hxS := hxS hx0
        replace hyS := hyS hy0
        rw [cv_geg] at c2 c4
        rw [Classical.not_not] at c2
        rw [Classical.not_not] at c4
        rw [if_pos c4] at hxD hxM hxS
        rw [if_pos c2] at hyD hyM hyS
        refine c_rest_loop1 (R := zm x % zm y) hyD hyS (by rw [hyM]; exact hy0) hxD hxS (by rw [hxM]; exact hx2) (by rw [hxM, hyM]) (fun L hL sL zL => ?_) 1200 0 _ (by omega) hyD hyS (by rw [Nat.pow_zero, Nat.mul_one]) (by rw [hyM]; exact hy2) (fun i hi => ⟨_, hyD, by rw [show i = 0 by omega, Nat.pow_zero, Nat.mul_one]⟩)
        obtain ⟨b1, b2, b3⟩ := z_back hx1 hx0 hL sL
        rw [z_ext b1 r1 (by rw [b3, r2]) (by rw [b2, r3, zL])]
        exact k
  · refine g_dload_n dX8_rest_6 rfl ?_
    refine g_dret dX8_rest_7 rfl ?_
    have hz : zm x = 0 := zv_zero.mp (by have := (zc_eq hx1 DF_zero).mp ((cv_eql _).mp c1); rw [z_0.2.2] at this; exact this)
    rw [z_ext r1 hx1 r2 (by rw [r3, hz, Nat.zero_mod])] at k
    exact k
