theorem lk_filterv {p : Nat × Value → Bool} {j : Nat} {v : Value} (hp : p (j, v) = true) : ∀ ls : List (Nat × Value), ls.lookup j = some v → (ls.filter p).lookup j = some v
  | [], h => by cases h
  | (i, u) :: ls, h => by
    by_cases e : j = i
    · subst e
      rw [List.lookup_cons] at h
      simp at h
      subst h
      rw [List.filter_cons, if_pos hp, List.lookup_cons]
      simp
    · have hb : (j == i) = false := by simpa using e
      rw [List.lookup_cons, hb] at h
      rw [List.filter_cons]
      split
      · rw [List.lookup_cons, hb]; exact lk_filterv hp ls h
      · exact lk_filterv hp ls h
theorem lk_s1 {ls : List (Nat × Value)} {i j : Nat} {u v : Value} (h : ls.lookup j = some v) (h1 : ¬ j = i) (hc : v.category = 1) : (ls1 ls i u).lookup j = some v := by
  have hb : (j == i) = false := by simpa using h1
  unfold ls1
  rw [List.lookup_cons, hb]
  exact lk_filterv (by simp [h1, hc]) ls h
theorem lk_s2 {ls : List (Nat × Value)} {i j : Nat} {u v : Value} (h : ls.lookup j = some v) (h1 : ¬ j = i) (h2 : ¬ j = i + 1) (hc : v.category = 1) : (ls2 ls i u).lookup j = some v := by
  have hb : (j == i) = false := by simpa using h1
  unfold ls2
  rw [List.lookup_cons, hb]
  exact lk_filterv (by simp [h1, h2, hc]) ls h
theorem dcmp_self {x : UInt64} (h : DF x) : FP.dcmp x x = some .eq := (zc_eq h h).mpr rfl
theorem len_out {n i : Nat} (hn : n ≤ 2560) (hi : i < 2 ^ 30) (h : ¬ i + 5 ≤ n) : nI n - 5 < nI i := by
  by_cases h5 : 5 ≤ n
  · have e : nI n - 5 = nI (n - 5) := by
      obtain ⟨m, rfl⟩ : ∃ m, n = m + 5 := ⟨n - 5, by omega⟩
      rw [show (5 : Int32) = nI 5 from rfl, ← nI_add, Nat.add_sub_cancel]
      simp
    rw [e]
    exact nI_lt (by omega) (by omega)
  · have hneg : ∀ k, k < 5 → nI k - 5 < 0 := by decide +kernel
    exact Int32.lt_of_lt_of_le (hneg n (by omega)) (nI_pos' (by omega))
theorem len_in {n i : Nat} (hn : n ≤ 2560) (h : i + 5 ≤ n) : ¬ nI n - 5 < nI i := by
  have e : nI n - 5 = nI (n - 5) := by
    obtain ⟨m, rfl⟩ : ∃ m, n = m + 5 := ⟨n - 5, by omega⟩
    rw [show (5 : Int32) = nI 5 from rfl, ← nI_add, Nat.add_sub_cancel]
    simp
  rw [e]
  exact fun z => absurd ((nI_ltI (by omega) (by omega)).mp z) (by omega)
set_option maxHeartbeats 4000000 in
set_option maxRecDepth 20000 in
theorem law_loop {g : GE} {d : Nat} {Q : Option Value → GW → Prop} (hd : 201 ≤ d) (hG : GT g) (hlen : eOL g 5 ≤ 2560) : ∀ (m i : Nat) (P : PG) (O : Nat → Nat) (w : GW) (σ : MW) (ls : List (Nat × Value)), i < 3000 ∧ eOL g 5 < i + 5 * (m + 1) → INV g P O w σ → (∀ W, gN W ≤ gN w + 600 * m → gU W ≤ gU w + 3600 * m → Q (some (.int 1)) W) → ls.lookup 0 = some (.ref (eO g 5)) → ls.lookup 1 = some (.ref (eB g)) → ls.lookup 2 = some (.ref (eB g + 70)) → ls.lookup 3 = some (.int (nI i)) → gF g d mL_law 18 ls [] (put g σ w) Q := by
  intro m
  induction m with
  | zero =>
    intro i P O w σ ls hi hI K l0 l1 l2 l3
    refine g_iload_n dL_law_18 l3 ?_
    refine g_aload_n dL_law_19 l0 ?_
    refine g_rolen dL_law_20 (by decide) ?_
    refine g_iconstV (v := 5) dL_law_21 (by decide) ?_
    refine g_isub dL_law_22 ?_
    refine g_icmp_gt 492 dL_law_23 (by decide) (fun _ => ?_) (fun q => absurd (len_out hlen (by omega) (by omega)) q)
    refine g_iconstV (v := 1) dL_law_492 (by decide) ?_
    refine g_zret dL_law_493 rfl rfl ?_
    exact K _ (by show gN w ≤ _; omega) (by show gU w ≤ _; omega)
  | succ m ih =>
    intro i P O w σ ls hi hI K l0 l1 l2 l3
    refine g_iload_n dL_law_18 l3 ?_
    refine g_aload_n dL_law_19 l0 ?_
    refine g_rolen dL_law_20 (by decide) ?_
    refine g_iconstV (v := 5) dL_law_21 (by decide) ?_
    refine g_isub dL_law_22 ?_
    by_cases hin : i + 5 ≤ eOL g 5
    · refine g_icmp_gt 492 dL_law_23 (by decide) (fun q => absurd q (len_in hlen hin)) (fun _ => ?_)
      refine g_aload_n dL_law_26 l0 ?_
      refine g_iload_n dL_law_27 l3 ?_
      refine g_roald dL_law_28 (by decide) rfl (by omega) ?_
      refine g_bipushV (v := 15) dL_law_29 (by decide) ?_
      refine g_iand dL_law_31 ?_
      refine g_tsw dL_law_32 [96, 119, 172, 185, 198, 249, 272, 333, 366, 417, 440, 463] 486 (by decide) (by decide) (by decide) (by decide) (by decide) ?_ (fun _ => ?_)
      · simp only [tswK]
        refine ⟨fun _ => ?_, fun _ => ?_, fun _ => ?_, fun _ => ?_, fun _ => ?_, fun _ => ?_, fun _ => ?_, fun _ => ?_, fun _ => ?_, fun _ => ?_, fun _ => ?_, fun _ => ?_, trivial⟩
        · obtain ⟨a, b, P', O', w', σ', h1, h2, hRR, hI', hN, hU⟩ := pair_choose (d := d - 1) (by omega) hI (eOF g 5 (i + 1))
          obtain ⟨v, rfl, rfl⟩ := hRR
          refine g_aload_n dL_law_96 l1 ?_
          refine g_aload_n dL_law_97 l0 ?_
          refine g_iload_n dL_law_98 l3 ?_
          refine g_iconstV (v := 1) dL_law_99 (by decide) ?_
          refine g_iadd dL_law_100 ?_
          rw [show nI i + 1 = nI (i + 1) from nI_add i 1]
          refine g_roald dL_law_101 (by decide) rfl (by omega) ?_
          refine g_callV (d1 := d - 1) (As := [_]) 8 dL_law_102 vL_13 (by omega) ((hI.1.put σ).ob 0 rfl) rfl rfl (Nat.le_of_ble_eq_true rfl) ?_
          refine h1 _ ?_
          refine g_aload_n dL_law_105 l2 ?_
          refine g_aload_n dL_law_106 l0 ?_
          refine g_iload_n dL_law_107 l3 ?_
          refine g_iconstV (v := 1) dL_law_108 (by decide) ?_
          refine g_iadd dL_law_109 ?_
          rw [show nI i + 1 = nI (i + 1) from nI_add i 1]
          refine g_roald dL_law_110 (by decide) rfl (by omega) ?_
          refine g_callV (d1 := d - 1) (As := [_]) 9 dL_law_111 vL_17 (by omega) ((hI'.1.put σ).ob 70 rfl) rfl rfl (Nat.le_of_ble_eq_true rfl) ?_
          refine h2 _ ?_
          refine g_icmp_eq 486 dL_law_114 (by decide) (fun _ => ?_) (fun q => absurd rfl q)
          refine g_iinc dL_law_486 l3 (by decide) rfl ?_
          refine g_goto 18 dL_law_489 (by decide) ?_
          exact ih (i + 5) P' O' w' σ' _ (by omega) hI' (fun W z1 z2 => K W (by omega) (by omega)) (lk_s1 l0 (by decide) rfl) (lk_s1 l1 (by decide) rfl) (lk_s1 l2 (by decide) rfl) (by rw [show nI i + Int32.ofInt 5 = nI (i + 5) from nI_add i 5]; exact lk_at1)
        · obtain ⟨a, b, P', O', w', σ', h1, h2, hRR, hI', hN, hU⟩ := pair_step (d := d - 1) (by omega) hG hI (eOF g 5 (i + 1)) (eOF g 5 (i + 2)) (eOF g 5 (i + 3)) (eOF g 5 (i + 4))
          obtain ⟨v, rfl, rfl⟩ := hRR
          refine g_aload_n dL_law_119 l1 ?_
          refine g_aload_n dL_law_120 l0 ?_
          refine g_iload_n dL_law_121 l3 ?_
          refine g_iconstV (v := 1) dL_law_122 (by decide) ?_
          refine g_iadd dL_law_123 ?_
          rw [show nI i + 1 = nI (i + 1) from nI_add i 1]
          refine g_roald dL_law_124 (by decide) rfl (by omega) ?_
          refine g_aload_n dL_law_125 l0 ?_
          refine g_iload_n dL_law_126 l3 ?_
          refine g_iconstV (v := 2) dL_law_127 (by decide) ?_
          refine g_iadd dL_law_128 ?_
          rw [show nI i + 2 = nI (i + 2) from nI_add i 2]
          refine g_roald dL_law_129 (by decide) rfl (by omega) ?_
          refine g_aload_n dL_law_130 l0 ?_
          refine g_iload_n dL_law_131 l3 ?_
          refine g_iconstV (v := 3) dL_law_132 (by decide) ?_
          refine g_iadd dL_law_133 ?_
          rw [show nI i + 3 = nI (i + 3) from nI_add i 3]
          refine g_roald dL_law_134 (by decide) rfl (by omega) ?_
          refine g_aload_n dL_law_135 l0 ?_
          refine g_iload_n dL_law_136 l3 ?_
          refine g_iconstV (v := 4) dL_law_137 (by decide) ?_
          refine g_iadd dL_law_138 ?_
          rw [show nI i + 4 = nI (i + 4) from nI_add i 4]
          refine g_roald dL_law_139 (by decide) rfl (by omega) ?_
          refine g_callV (d1 := d - 1) (As := [_, _, _, _]) 8 dL_law_140 vL_18 (by omega) ((hI.1.put σ).ob 0 rfl) rfl rfl (Nat.le_of_ble_eq_true rfl) ?_
          refine h1 _ ?_
          refine g_aload_n dL_law_143 l2 ?_
          refine g_aload_n dL_law_144 l0 ?_
          refine g_iload_n dL_law_145 l3 ?_
          refine g_iconstV (v := 1) dL_law_146 (by decide) ?_
          refine g_iadd dL_law_147 ?_
          rw [show nI i + 1 = nI (i + 1) from nI_add i 1]
          refine g_roald dL_law_148 (by decide) rfl (by omega) ?_
          refine g_aload_n dL_law_149 l0 ?_
          refine g_iload_n dL_law_150 l3 ?_
          refine g_iconstV (v := 2) dL_law_151 (by decide) ?_
          refine g_iadd dL_law_152 ?_
          rw [show nI i + 2 = nI (i + 2) from nI_add i 2]
          refine g_roald dL_law_153 (by decide) rfl (by omega) ?_
          refine g_aload_n dL_law_154 l0 ?_
          refine g_iload_n dL_law_155 l3 ?_
          refine g_iconstV (v := 3) dL_law_156 (by decide) ?_
          refine g_iadd dL_law_157 ?_
          rw [show nI i + 3 = nI (i + 3) from nI_add i 3]
          refine g_roald dL_law_158 (by decide) rfl (by omega) ?_
          refine g_aload_n dL_law_159 l0 ?_
          refine g_iload_n dL_law_160 l3 ?_
          refine g_iconstV (v := 4) dL_law_161 (by decide) ?_
          refine g_iadd dL_law_162 ?_
          rw [show nI i + 4 = nI (i + 4) from nI_add i 4]
          refine g_roald dL_law_163 (by decide) rfl (by omega) ?_
          refine g_callV (d1 := d - 1) (As := [_, _, _, _]) 9 dL_law_164 vL_22 (by omega) ((hI'.1.put σ).ob 70 rfl) rfl rfl (Nat.le_of_ble_eq_true rfl) ?_
          refine h2 _ ?_
          refine g_icmp_eq 486 dL_law_167 (by decide) (fun _ => ?_) (fun q => absurd rfl q)
          refine g_iinc dL_law_486 l3 (by decide) rfl ?_
          refine g_goto 18 dL_law_489 (by decide) ?_
          exact ih (i + 5) P' O' w' σ' _ (by omega) hI' (fun W z1 z2 => K W (by omega) (by omega)) (lk_s1 l0 (by decide) rfl) (lk_s1 l1 (by decide) rfl) (lk_s1 l2 (by decide) rfl) (by rw [show nI i + Int32.ofInt 5 = nI (i + 5) from nI_add i 5]; exact lk_at1)
        · obtain ⟨a, b, P', O', w', σ', h1, h2, hRR, hI', hN, hU⟩ := pair_clear (d := d - 1) (by omega) hI
          obtain ⟨v, rfl, rfl⟩ := hRR
          refine g_aload_n dL_law_172 l1 ?_
          refine g_callV (d1 := d - 1) (As := []) 8 dL_law_173 vL_23 (by omega) ((hI.1.put σ).ob 0 rfl) rfl rfl (Nat.le_of_ble_eq_true rfl) ?_
          refine h1 _ ?_
          refine g_aload_n dL_law_176 l2 ?_
          refine g_callV (d1 := d - 1) (As := []) 9 dL_law_177 vL_27 (by omega) ((hI'.1.put σ).ob 70 rfl) rfl rfl (Nat.le_of_ble_eq_true rfl) ?_
          refine h2 _ ?_
          refine g_icmp_eq 486 dL_law_180 (by decide) (fun _ => ?_) (fun q => absurd rfl q)
          refine g_iinc dL_law_486 l3 (by decide) rfl ?_
          refine g_goto 18 dL_law_489 (by decide) ?_
          exact ih (i + 5) P' O' w' σ' _ (by omega) hI' (fun W z1 z2 => K W (by omega) (by omega)) (lk_s1 l0 (by decide) rfl) (lk_s1 l1 (by decide) rfl) (lk_s1 l2 (by decide) rfl) (by rw [show nI i + Int32.ofInt 5 = nI (i + 5) from nI_add i 5]; exact lk_at1)
        · obtain ⟨a, b, P', O', w', σ', h1, h2, hRR, hI', hN, hU⟩ := pair_run (d := d - 1) (by omega) hG hI
          obtain ⟨v, rfl, rfl⟩ := hRR
          refine g_aload_n dL_law_185 l1 ?_
          refine g_callV (d1 := d - 1) (As := []) 8 dL_law_186 vL_28 (by omega) ((hI.1.put σ).ob 0 rfl) rfl rfl (Nat.le_of_ble_eq_true rfl) ?_
          refine h1 _ ?_
          refine g_aload_n dL_law_189 l2 ?_
          refine g_callV (d1 := d - 1) (As := []) 9 dL_law_190 vL_31 (by omega) ((hI'.1.put σ).ob 70 rfl) rfl rfl (Nat.le_of_ble_eq_true rfl) ?_
          refine h2 _ ?_
          refine g_icmp_eq 486 dL_law_193 (by decide) (fun _ => ?_) (fun q => absurd rfl q)
          refine g_iinc dL_law_486 l3 (by decide) rfl ?_
          refine g_goto 18 dL_law_489 (by decide) ?_
          exact ih (i + 5) P' O' w' σ' _ (by omega) hI' (fun W z1 z2 => K W (by omega) (by omega)) (lk_s1 l0 (by decide) rfl) (lk_s1 l1 (by decide) rfl) (lk_s1 l2 (by decide) rfl) (by rw [show nI i + Int32.ofInt 5 = nI (i + 5) from nI_add i 5]; exact lk_at1)
        · obtain ⟨a, b, P', O', w', σ', h1, h2, hRR, hI', hN, hU⟩ := pair_dial (d := d - 1) (by omega) hI (eOF g 5 (i + 1))
          obtain ⟨v, hv, rfl, rfl⟩ := hRR
          refine g_aload_n dL_law_198 l1 ?_
          refine g_aload_n dL_law_199 l0 ?_
          refine g_iload_n dL_law_200 l3 ?_
          refine g_iconstV (v := 1) dL_law_201 (by decide) ?_
          refine g_iadd dL_law_202 ?_
          rw [show nI i + 1 = nI (i + 1) from nI_add i 1]
          refine g_roald dL_law_203 (by decide) rfl (by omega) ?_
          refine g_callV (d1 := d - 1) (As := [_]) 8 dL_law_204 vL_32 (by omega) ((hI.1.put σ).ob 0 rfl) rfl rfl (Nat.le_of_ble_eq_true rfl) ?_
          refine h1 _ ?_
          refine g_dstore dL_law_207 (by decide) rfl ?_
          refine g_aload_n dL_law_209 (lk_s2 l2 (by decide) (by decide) rfl) ?_
          refine g_aload_n dL_law_210 (lk_s2 l0 (by decide) (by decide) rfl) ?_
          refine g_iload_n dL_law_211 (lk_s2 l3 (by decide) (by decide) rfl) ?_
          refine g_iconstV (v := 1) dL_law_212 (by decide) ?_
          refine g_iadd dL_law_213 ?_
          rw [show nI i + 1 = nI (i + 1) from nI_add i 1]
          refine g_roald dL_law_214 (by decide) rfl (by omega) ?_
          refine g_callV (d1 := d - 1) (As := [_]) 9 dL_law_215 vL_36 (by omega) ((hI'.1.put σ).ob 70 rfl) rfl rfl (Nat.le_of_ble_eq_true rfl) ?_
          refine h2 _ ?_
          refine g_dstore dL_law_218 (by decide) rfl ?_
          refine g_dload dL_law_220 (lk_ls2 lk_at2 (by decide) (by decide) (by decide)) ?_
          refine g_dload dL_law_222 lk_at2 ?_
          refine g_dcmp dL_law_224 ?_
          refine g_if_eq 246 dL_law_225 (by decide) (fun _ => ?_) (fun q => absurd ((cv_eql _).mpr (dcmp_self hv)) q)
          refine g_goto 486 dL_law_246 (by decide) ?_
          refine g_iinc dL_law_486 (lk_s2 (lk_s2 l3 (by decide) (by decide) rfl) (by decide) (by decide) rfl) (by decide) rfl ?_
          refine g_goto 18 dL_law_489 (by decide) ?_
          exact ih (i + 5) P' O' w' σ' _ (by omega) hI' (fun W z1 z2 => K W (by omega) (by omega)) (lk_s1 (lk_s2 (lk_s2 l0 (by decide) (by decide) rfl) (by decide) (by decide) rfl) (by decide) rfl) (lk_s1 (lk_s2 (lk_s2 l1 (by decide) (by decide) rfl) (by decide) (by decide) rfl) (by decide) rfl) (lk_s1 (lk_s2 (lk_s2 l2 (by decide) (by decide) rfl) (by decide) (by decide) rfl) (by decide) rfl) (by rw [show nI i + Int32.ofInt 5 = nI (i + 5) from nI_add i 5]; exact lk_at1)
        · obtain ⟨a, b, P', O', w', σ', h1, h2, hRR, hI', hN, hU⟩ := pair_size (d := d - 1) (by omega) hI (eOF g 5 (i + 1))
          obtain ⟨v, rfl, rfl⟩ := hRR
          refine g_aload_n dL_law_249 l1 ?_
          refine g_aload_n dL_law_250 l0 ?_
          refine g_iload_n dL_law_251 l3 ?_
          refine g_iconstV (v := 1) dL_law_252 (by decide) ?_
          refine g_iadd dL_law_253 ?_
          rw [show nI i + 1 = nI (i + 1) from nI_add i 1]
          refine g_roald dL_law_254 (by decide) rfl (by omega) ?_
          refine g_callV (d1 := d - 1) (As := [_]) 8 dL_law_255 vL_37 (by omega) ((hI.1.put σ).ob 0 rfl) rfl rfl (Nat.le_of_ble_eq_true rfl) ?_
          refine h1 _ ?_
          refine g_aload_n dL_law_258 l2 ?_
          refine g_aload_n dL_law_259 l0 ?_
          refine g_iload_n dL_law_260 l3 ?_
          refine g_iconstV (v := 1) dL_law_261 (by decide) ?_
          refine g_iadd dL_law_262 ?_
          rw [show nI i + 1 = nI (i + 1) from nI_add i 1]
          refine g_roald dL_law_263 (by decide) rfl (by omega) ?_
          refine g_callV (d1 := d - 1) (As := [_]) 9 dL_law_264 vL_40 (by omega) ((hI'.1.put σ).ob 70 rfl) rfl rfl (Nat.le_of_ble_eq_true rfl) ?_
          refine h2 _ ?_
          refine g_icmp_eq 486 dL_law_267 (by decide) (fun _ => ?_) (fun q => absurd rfl q)
          refine g_iinc dL_law_486 l3 (by decide) rfl ?_
          refine g_goto 18 dL_law_489 (by decide) ?_
          exact ih (i + 5) P' O' w' σ' _ (by omega) hI' (fun W z1 z2 => K W (by omega) (by omega)) (lk_s1 l0 (by decide) rfl) (lk_s1 l1 (by decide) rfl) (lk_s1 l2 (by decide) rfl) (by rw [show nI i + Int32.ofInt 5 = nI (i + 5) from nI_add i 5]; exact lk_at1)
        · obtain ⟨a, b, P', O', w', σ', h1, h2, hRR, hI', hN, hU⟩ := pair_value (d := d - 1) (by omega) hI (eOF g 5 (i + 1)) (eOF g 5 (i + 2))
          obtain ⟨v, hv, rfl, rfl⟩ := hRR
          refine g_aload_n dL_law_272 l1 ?_
          refine g_aload_n dL_law_273 l0 ?_
          refine g_iload_n dL_law_274 l3 ?_
          refine g_iconstV (v := 1) dL_law_275 (by decide) ?_
          refine g_iadd dL_law_276 ?_
          rw [show nI i + 1 = nI (i + 1) from nI_add i 1]
          refine g_roald dL_law_277 (by decide) rfl (by omega) ?_
          refine g_aload_n dL_law_278 l0 ?_
          refine g_iload_n dL_law_279 l3 ?_
          refine g_iconstV (v := 2) dL_law_280 (by decide) ?_
          refine g_iadd dL_law_281 ?_
          rw [show nI i + 2 = nI (i + 2) from nI_add i 2]
          refine g_roald dL_law_282 (by decide) rfl (by omega) ?_
          refine g_callV (d1 := d - 1) (As := [_, _]) 8 dL_law_283 vL_41 (by omega) ((hI.1.put σ).ob 0 rfl) rfl rfl (Nat.le_of_ble_eq_true rfl) ?_
          refine h1 _ ?_
          refine g_dstore dL_law_286 (by decide) rfl ?_
          refine g_aload_n dL_law_288 (lk_s2 l2 (by decide) (by decide) rfl) ?_
          refine g_aload_n dL_law_289 (lk_s2 l0 (by decide) (by decide) rfl) ?_
          refine g_iload_n dL_law_290 (lk_s2 l3 (by decide) (by decide) rfl) ?_
          refine g_iconstV (v := 1) dL_law_291 (by decide) ?_
          refine g_iadd dL_law_292 ?_
          rw [show nI i + 1 = nI (i + 1) from nI_add i 1]
          refine g_roald dL_law_293 (by decide) rfl (by omega) ?_
          refine g_aload_n dL_law_294 (lk_s2 l0 (by decide) (by decide) rfl) ?_
          refine g_iload_n dL_law_295 (lk_s2 l3 (by decide) (by decide) rfl) ?_
          refine g_iconstV (v := 2) dL_law_296 (by decide) ?_
          refine g_iadd dL_law_297 ?_
          rw [show nI i + 2 = nI (i + 2) from nI_add i 2]
          refine g_roald dL_law_298 (by decide) rfl (by omega) ?_
          refine g_callV (d1 := d - 1) (As := [_, _]) 9 dL_law_299 vL_45 (by omega) ((hI'.1.put σ).ob 70 rfl) rfl rfl (Nat.le_of_ble_eq_true rfl) ?_
          refine h2 _ ?_
          refine g_dstore dL_law_302 (by decide) rfl ?_
          refine g_dload dL_law_304 (lk_ls2 lk_at2 (by decide) (by decide) (by decide)) ?_
          refine g_dload dL_law_306 lk_at2 ?_
          refine g_dcmp dL_law_308 ?_
          refine g_if_eq 330 dL_law_309 (by decide) (fun _ => ?_) (fun q => absurd ((cv_eql _).mpr (dcmp_self hv)) q)
          refine g_goto 486 dL_law_330 (by decide) ?_
          refine g_iinc dL_law_486 (lk_s2 (lk_s2 l3 (by decide) (by decide) rfl) (by decide) (by decide) rfl) (by decide) rfl ?_
          refine g_goto 18 dL_law_489 (by decide) ?_
          exact ih (i + 5) P' O' w' σ' _ (by omega) hI' (fun W z1 z2 => K W (by omega) (by omega)) (lk_s1 (lk_s2 (lk_s2 l0 (by decide) (by decide) rfl) (by decide) (by decide) rfl) (by decide) rfl) (lk_s1 (lk_s2 (lk_s2 l1 (by decide) (by decide) rfl) (by decide) (by decide) rfl) (by decide) rfl) (lk_s1 (lk_s2 (lk_s2 l2 (by decide) (by decide) rfl) (by decide) (by decide) rfl) (by decide) rfl) (by rw [show nI i + Int32.ofInt 5 = nI (i + 5) from nI_add i 5]; exact lk_at1)
        · obtain ⟨a, b, P', O', w', σ', h1, h2, hRR, hI', hN, hU⟩ := pair_isFitted (d := d - 1) (by omega) hI (eOF g 5 (i + 1)) (eOF g 5 (i + 2))
          obtain ⟨v, rfl, rfl⟩ := hRR
          refine g_aload_n dL_law_333 l1 ?_
          refine g_aload_n dL_law_334 l0 ?_
          refine g_iload_n dL_law_335 l3 ?_
          refine g_iconstV (v := 1) dL_law_336 (by decide) ?_
          refine g_iadd dL_law_337 ?_
          rw [show nI i + 1 = nI (i + 1) from nI_add i 1]
          refine g_roald dL_law_338 (by decide) rfl (by omega) ?_
          refine g_aload_n dL_law_339 l0 ?_
          refine g_iload_n dL_law_340 l3 ?_
          refine g_iconstV (v := 2) dL_law_341 (by decide) ?_
          refine g_iadd dL_law_342 ?_
          rw [show nI i + 2 = nI (i + 2) from nI_add i 2]
          refine g_roald dL_law_343 (by decide) rfl (by omega) ?_
          refine g_callV (d1 := d - 1) (As := [_, _]) 8 dL_law_344 vL_46 (by omega) ((hI.1.put σ).ob 0 rfl) rfl rfl (Nat.le_of_ble_eq_true rfl) ?_
          refine h1 _ ?_
          refine g_aload_n dL_law_347 l2 ?_
          refine g_aload_n dL_law_348 l0 ?_
          refine g_iload_n dL_law_349 l3 ?_
          refine g_iconstV (v := 1) dL_law_350 (by decide) ?_
          refine g_iadd dL_law_351 ?_
          rw [show nI i + 1 = nI (i + 1) from nI_add i 1]
          refine g_roald dL_law_352 (by decide) rfl (by omega) ?_
          refine g_aload_n dL_law_353 l0 ?_
          refine g_iload_n dL_law_354 l3 ?_
          refine g_iconstV (v := 2) dL_law_355 (by decide) ?_
          refine g_iadd dL_law_356 ?_
          rw [show nI i + 2 = nI (i + 2) from nI_add i 2]
          refine g_roald dL_law_357 (by decide) rfl (by omega) ?_
          refine g_callV (d1 := d - 1) (As := [_, _]) 9 dL_law_358 vL_50 (by omega) ((hI'.1.put σ).ob 70 rfl) rfl rfl (Nat.le_of_ble_eq_true rfl) ?_
          refine h2 _ ?_
          refine g_icmp_eq 486 dL_law_361 (by decide) (fun _ => ?_) (fun q => absurd rfl q)
          refine g_iinc dL_law_486 l3 (by decide) rfl ?_
          refine g_goto 18 dL_law_489 (by decide) ?_
          exact ih (i + 5) P' O' w' σ' _ (by omega) hI' (fun W z1 z2 => K W (by omega) (by omega)) (lk_s1 l0 (by decide) rfl) (lk_s1 l1 (by decide) rfl) (lk_s1 l2 (by decide) rfl) (by rw [show nI i + Int32.ofInt 5 = nI (i + 5) from nI_add i 5]; exact lk_at1)
        · obtain ⟨a, b, P', O', w', σ', h1, h2, hRR, hI', hN, hU⟩ := pair_log (d := d - 1) (by omega) hI (eOF g 5 (i + 1))
          obtain ⟨v, hv, rfl, rfl⟩ := hRR
          refine g_aload_n dL_law_366 l1 ?_
          refine g_aload_n dL_law_367 l0 ?_
          refine g_iload_n dL_law_368 l3 ?_
          refine g_iconstV (v := 1) dL_law_369 (by decide) ?_
          refine g_iadd dL_law_370 ?_
          rw [show nI i + 1 = nI (i + 1) from nI_add i 1]
          refine g_roald dL_law_371 (by decide) rfl (by omega) ?_
          refine g_callV (d1 := d - 1) (As := [_]) 8 dL_law_372 vL_51 (by omega) ((hI.1.put σ).ob 0 rfl) rfl rfl (Nat.le_of_ble_eq_true rfl) ?_
          refine h1 _ ?_
          refine g_dstore dL_law_375 (by decide) rfl ?_
          refine g_aload_n dL_law_377 (lk_s2 l2 (by decide) (by decide) rfl) ?_
          refine g_aload_n dL_law_378 (lk_s2 l0 (by decide) (by decide) rfl) ?_
          refine g_iload_n dL_law_379 (lk_s2 l3 (by decide) (by decide) rfl) ?_
          refine g_iconstV (v := 1) dL_law_380 (by decide) ?_
          refine g_iadd dL_law_381 ?_
          rw [show nI i + 1 = nI (i + 1) from nI_add i 1]
          refine g_roald dL_law_382 (by decide) rfl (by omega) ?_
          refine g_callV (d1 := d - 1) (As := [_]) 9 dL_law_383 vL_54 (by omega) ((hI'.1.put σ).ob 70 rfl) rfl rfl (Nat.le_of_ble_eq_true rfl) ?_
          refine h2 _ ?_
          refine g_dstore dL_law_386 (by decide) rfl ?_
          refine g_dload dL_law_388 (lk_ls2 lk_at2 (by decide) (by decide) (by decide)) ?_
          refine g_dload dL_law_390 lk_at2 ?_
          refine g_dcmp dL_law_392 ?_
          refine g_if_eq 414 dL_law_393 (by decide) (fun _ => ?_) (fun q => absurd ((cv_eql _).mpr (dcmp_self hv)) q)
          refine g_goto 486 dL_law_414 (by decide) ?_
          refine g_iinc dL_law_486 (lk_s2 (lk_s2 l3 (by decide) (by decide) rfl) (by decide) (by decide) rfl) (by decide) rfl ?_
          refine g_goto 18 dL_law_489 (by decide) ?_
          exact ih (i + 5) P' O' w' σ' _ (by omega) hI' (fun W z1 z2 => K W (by omega) (by omega)) (lk_s1 (lk_s2 (lk_s2 l0 (by decide) (by decide) rfl) (by decide) (by decide) rfl) (by decide) rfl) (lk_s1 (lk_s2 (lk_s2 l1 (by decide) (by decide) rfl) (by decide) (by decide) rfl) (by decide) rfl) (lk_s1 (lk_s2 (lk_s2 l2 (by decide) (by decide) rfl) (by decide) (by decide) rfl) (by decide) rfl) (by rw [show nI i + Int32.ofInt 5 = nI (i + 5) from nI_add i 5]; exact lk_at1)
        · obtain ⟨a, b, P', O', w', σ', h1, h2, hRR, hI', hN, hU⟩ := pair_isMinus (d := d - 1) (by omega) hI (eOF g 5 (i + 1))
          obtain ⟨v, rfl, rfl⟩ := hRR
          refine g_aload_n dL_law_417 l1 ?_
          refine g_aload_n dL_law_418 l0 ?_
          refine g_iload_n dL_law_419 l3 ?_
          refine g_iconstV (v := 1) dL_law_420 (by decide) ?_
          refine g_iadd dL_law_421 ?_
          rw [show nI i + 1 = nI (i + 1) from nI_add i 1]
          refine g_roald dL_law_422 (by decide) rfl (by omega) ?_
          refine g_callV (d1 := d - 1) (As := [_]) 8 dL_law_423 vL_55 (by omega) ((hI.1.put σ).ob 0 rfl) rfl rfl (Nat.le_of_ble_eq_true rfl) ?_
          refine h1 _ ?_
          refine g_aload_n dL_law_426 l2 ?_
          refine g_aload_n dL_law_427 l0 ?_
          refine g_iload_n dL_law_428 l3 ?_
          refine g_iconstV (v := 1) dL_law_429 (by decide) ?_
          refine g_iadd dL_law_430 ?_
          rw [show nI i + 1 = nI (i + 1) from nI_add i 1]
          refine g_roald dL_law_431 (by decide) rfl (by omega) ?_
          refine g_callV (d1 := d - 1) (As := [_]) 9 dL_law_432 vL_59 (by omega) ((hI'.1.put σ).ob 70 rfl) rfl rfl (Nat.le_of_ble_eq_true rfl) ?_
          refine h2 _ ?_
          refine g_icmp_eq 486 dL_law_435 (by decide) (fun _ => ?_) (fun q => absurd rfl q)
          refine g_iinc dL_law_486 l3 (by decide) rfl ?_
          refine g_goto 18 dL_law_489 (by decide) ?_
          exact ih (i + 5) P' O' w' σ' _ (by omega) hI' (fun W z1 z2 => K W (by omega) (by omega)) (lk_s1 l0 (by decide) rfl) (lk_s1 l1 (by decide) rfl) (lk_s1 l2 (by decide) rfl) (by rw [show nI i + Int32.ofInt 5 = nI (i + 5) from nI_add i 5]; exact lk_at1)
        · obtain ⟨a, b, P', O', w', σ', h1, h2, hRR, hI', hN, hU⟩ := pair_count (d := d - 1) (by omega) hI (eOF g 5 (i + 1))
          obtain ⟨v, rfl, rfl⟩ := hRR
          refine g_aload_n dL_law_440 l1 ?_
          refine g_aload_n dL_law_441 l0 ?_
          refine g_iload_n dL_law_442 l3 ?_
          refine g_iconstV (v := 1) dL_law_443 (by decide) ?_
          refine g_iadd dL_law_444 ?_
          rw [show nI i + 1 = nI (i + 1) from nI_add i 1]
          refine g_roald dL_law_445 (by decide) rfl (by omega) ?_
          refine g_callV (d1 := d - 1) (As := [_]) 8 dL_law_446 vL_60 (by omega) ((hI.1.put σ).ob 0 rfl) rfl rfl (Nat.le_of_ble_eq_true rfl) ?_
          refine h1 _ ?_
          refine g_aload_n dL_law_449 l2 ?_
          refine g_aload_n dL_law_450 l0 ?_
          refine g_iload_n dL_law_451 l3 ?_
          refine g_iconstV (v := 1) dL_law_452 (by decide) ?_
          refine g_iadd dL_law_453 ?_
          rw [show nI i + 1 = nI (i + 1) from nI_add i 1]
          refine g_roald dL_law_454 (by decide) rfl (by omega) ?_
          refine g_callV (d1 := d - 1) (As := [_]) 9 dL_law_455 vL_63 (by omega) ((hI'.1.put σ).ob 70 rfl) rfl rfl (Nat.le_of_ble_eq_true rfl) ?_
          refine h2 _ ?_
          refine g_icmp_eq 486 dL_law_458 (by decide) (fun _ => ?_) (fun q => absurd rfl q)
          refine g_iinc dL_law_486 l3 (by decide) rfl ?_
          refine g_goto 18 dL_law_489 (by decide) ?_
          exact ih (i + 5) P' O' w' σ' _ (by omega) hI' (fun W z1 z2 => K W (by omega) (by omega)) (lk_s1 l0 (by decide) rfl) (lk_s1 l1 (by decide) rfl) (lk_s1 l2 (by decide) rfl) (by rw [show nI i + Int32.ofInt 5 = nI (i + 5) from nI_add i 5]; exact lk_at1)
        · obtain ⟨a, b, P', O', w', σ', h1, h2, hRR, hI', hN, hU⟩ := pair_fault (d := d - 1) (by omega) hI (eOF g 5 (i + 1))
          obtain ⟨v, rfl, rfl⟩ := hRR
          refine g_aload_n dL_law_463 l1 ?_
          refine g_aload_n dL_law_464 l0 ?_
          refine g_iload_n dL_law_465 l3 ?_
          refine g_iconstV (v := 1) dL_law_466 (by decide) ?_
          refine g_iadd dL_law_467 ?_
          rw [show nI i + 1 = nI (i + 1) from nI_add i 1]
          refine g_roald dL_law_468 (by decide) rfl (by omega) ?_
          refine g_callV (d1 := d - 1) (As := [_]) 8 dL_law_469 vL_64 (by omega) ((hI.1.put σ).ob 0 rfl) rfl rfl (Nat.le_of_ble_eq_true rfl) ?_
          refine h1 _ ?_
          refine g_aload_n dL_law_472 l2 ?_
          refine g_aload_n dL_law_473 l0 ?_
          refine g_iload_n dL_law_474 l3 ?_
          refine g_iconstV (v := 1) dL_law_475 (by decide) ?_
          refine g_iadd dL_law_476 ?_
          rw [show nI i + 1 = nI (i + 1) from nI_add i 1]
          refine g_roald dL_law_477 (by decide) rfl (by omega) ?_
          refine g_callV (d1 := d - 1) (As := [_]) 9 dL_law_478 vL_67 (by omega) ((hI'.1.put σ).ob 70 rfl) rfl rfl (Nat.le_of_ble_eq_true rfl) ?_
          refine h2 _ ?_
          refine g_icmp_eq 486 dL_law_481 (by decide) (fun _ => ?_) (fun q => absurd rfl q)
          refine g_iinc dL_law_486 l3 (by decide) rfl ?_
          refine g_goto 18 dL_law_489 (by decide) ?_
          exact ih (i + 5) P' O' w' σ' _ (by omega) hI' (fun W z1 z2 => K W (by omega) (by omega)) (lk_s1 l0 (by decide) rfl) (lk_s1 l1 (by decide) rfl) (lk_s1 l2 (by decide) rfl) (by rw [show nI i + Int32.ofInt 5 = nI (i + 5) from nI_add i 5]; exact lk_at1)
      · refine g_iinc dL_law_486 l3 (by decide) rfl ?_
        refine g_goto 18 dL_law_489 (by decide) ?_
        exact ih (i + 5) P O w σ _ (by omega) hI (fun W z1 z2 => K W (by omega) (by omega)) (lk_s1 l0 (by decide) rfl) (lk_s1 l1 (by decide) rfl) (lk_s1 l2 (by decide) rfl) (by rw [show nI i + Int32.ofInt 5 = nI (i + 5) from nI_add i 5]; exact lk_at1)
    · refine g_icmp_gt 492 dL_law_23 (by decide) (fun _ => ?_) (fun q => absurd (len_out hlen (by omega) hin) q)
      refine g_iconstV (v := 1) dL_law_492 (by decide) ?_
      refine g_zret dL_law_493 rfl rfl ?_
      exact K _ (by show gN w ≤ _; omega) (by show gU w ≤ _; omega)
