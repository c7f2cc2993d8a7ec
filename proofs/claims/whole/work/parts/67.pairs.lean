theorem Pair_inv {g : GE} {P : PG} {O : Nat → Nat} {d : Nat} {Yc Ym : GM} {as : List Value} {w : GW} {σ : MW} {R : Value → Value → Prop} (hI : INV g P O w σ) (H : ∀ w, MP g σ w → INV g P O w σ → ∃ (a b : Value) (P' : PG) (O' : Nat → Nat) (w' : GW) (σ' : MW), Ans g d Yc (.ref (eB g) :: as) w (some a) w' ∧ MP g σ w' ∧ (∀ w1, SK g w1 → Ans g d Ym (.ref (eB g + 70) :: as) (put g σ w1) (some b) (put g σ' w1)) ∧ R a b ∧ INV g P' O' w' σ' ∧ gN w' ≤ gN w + 600 ∧ gU w' ≤ gU w + 3600) : Pair g d Yc Ym as w σ R := by
  obtain ⟨a, b, P', O', w', σ', h1, h2, h3, h4, h5, h6, h7⟩ := H (put g σ w) (MP_put g σ w) ((CE_put g σ w).inv hI)
  exact ⟨a, b, P', O', w', σ', by rw [put_self h2]; exact h1, h3 w' h5.1, h4, h5, h6, h7⟩
theorem Pair_same {g : GE} {P : PG} {O : Nat → Nat} {d : Nat} {Yc Ym : GM} {as : List Value} {w : GW} {σ : MW} {R : Value → Value → Prop} (hI : INV g P O w σ) (H : ∀ w, INV g P O w σ → ∃ a b : Value, Ans g d Yc (.ref (eB g) :: as) w (some a) w ∧ (∀ w1, SK g w1 → Ans g d Ym (.ref (eB g + 70) :: as) (put g σ w1) (some b) (put g σ w1)) ∧ R a b) : Pair g d Yc Ym as w σ R :=
  Pair_inv hI (fun w hM hI => by
    obtain ⟨a, b, h1, h2, h3⟩ := H w hI
    exact ⟨a, b, P, O, w, σ, h1, hM, h2, h3, hI, by omega, by omega⟩)
theorem fIn_hi {v : Int32} (hi : Nat) (hh : hi < 2 ^ 30) : fIn v 0 (nI hi) = 0 ↔ ¬ ∃ j : Nat, j < hi + 1 ∧ v = nI j := by
  constructor
  · rintro h ⟨j, hj, rfl⟩
    have h1 : fIn (nI j) 0 (nI hi) = 1 := fIn_1.mpr ⟨nI_pos (by omega), fun q => absurd ((nI_ltI (by omega) (by omega)).mp q) (by omega)⟩
    rw [h1] at h
    exact absurd h (by decide)
  · intro h
    rcases fIn_01 v 0 (nI hi) with q | q
    · exact q
    · exact absurd (fIn_lt hi hh (by rw [q]; decide)) h
theorem rng_out {v : Int32} {n : Nat} (hn : n < 2 ^ 30) (h : ¬ ∃ j : Nat, j < n ∧ v = nI j) : v < 0 ∨ nI n ≤ v := by
  by_cases h0 : v < 0
  · exact Or.inl h0
  · by_cases h1 : nI n ≤ v
    · exact Or.inr h1
    · exact absurd (nI_of_rng h0 h1 (by omega)) h
theorem rng_in {v : Int32} {n : Nat} (hn : n < 2 ^ 30) (h : v < 0 ∨ nI n ≤ v) : ¬ ∃ j : Nat, j < n ∧ v = nI j := by
  rintro ⟨j, hj, rfl⟩
  exact h.elim (nI_pos (by omega)) (nI_ge hj (by omega))
section PAIRS
variable {g : GE} {P : PG} {O : Nat → Nat} {d : Nat} {w : GW} {σ : MW}
theorem pair_dial (hd : 3 ≤ d) (hI : INV g P O w σ) (v : Int32) : Pair g d mX9_dial mX10_dial [.int v] w σ RD := by
  refine Pair_same hI (fun w hI => ?_)
  obtain ⟨hS, hR, ⟨hD, hRr, hL⟩, -⟩ := hI
  by_cases h : ∃ j : Nat, j < 8 ∧ v = nI j
  · obtain ⟨j, hj, rfl⟩ := h
    obtain ⟨e1, e2⟩ := hD j hj
    refine ⟨_, _, fun Q hQ => f_dial (by omega) hS hQ, fun w1 hS1 Q hQ => m_dial (by omega) hS1 (fun z => absurd ⟨j, hj, rfl⟩ ((fIn_hi 7 (by decide)).mp z)) (fun j' hj' e => ?_), mD σ 11 j, e2.1, by rw [cAt_in hj, e1], rfl⟩
    obtain rfl : j = j' := (nI_eq (by omega) (by omega)).mp e
    exact hQ
  · refine ⟨_, _, fun Q hQ => f_dial (by omega) hS hQ, fun w1 hS1 Q hQ => m_dial (by omega) hS1 (fun z => hQ) (fun j hj e => absurd ⟨j, hj, e⟩ h), FP.dconst0, DF_zero, ?_, rfl⟩
    unfold cAt
    rw [if_pos (show v < 0 ∨ 8 ≤ v from rng_out (n := 8) (by decide) h)]
theorem pair_size (hd : 3 ≤ d) (hI : INV g P O w σ) (v : Int32) : Pair g d mX9_size mX10_size [.int v] w σ RI := by
  refine Pair_same hI (fun w hI => ?_)
  obtain ⟨hS, hR, ⟨hD, hRr, hL⟩, -⟩ := hI
  by_cases h : ∃ j : Nat, j < 18 ∧ v = nI j
  · obtain ⟨j, hj, rfl⟩ := h
    refine ⟨.int (gI w 387 (aRow g j)), .int (if mA σ 12 j = 0 then -1 else mA σ 13 j), fun Q hQ => f_size (by omega) hS (fun z => absurd ⟨j, hj, rfl⟩ (rng_in (by decide) z)) (fun j' hj' e => ?_), fun w1 hS1 Q hQ => m_size (by omega) hS1 (fun z => absurd ⟨j, hj, rfl⟩ ((fIn_hi 17 (by decide)).mp z)) (fun j' hj' e => ?_), ?_⟩
    · obtain rfl : j = j' := (nI_eq (by omega) (by omega)).mp e
      exact hQ
    · obtain rfl : j = j' := (nI_eq (by omega) (by omega)).mp e
      exact hQ
    · rcases hRr j hj with ⟨z1, z2⟩ | ⟨n, z1, z2, z3, z4, z5⟩
      · exact ⟨-1, by rw [z1], by rw [z2, if_pos rfl]⟩
      · exact ⟨nI n, by rw [z2], by rw [z3, z4, if_neg (by decide)]⟩
  · exact ⟨.int (-2), .int (-2), fun Q hQ => f_size (by omega) hS (fun z => hQ) (fun j hj e => absurd ⟨j, hj, e⟩ h), fun w1 hS1 Q hQ => m_size (by omega) hS1 (fun z => hQ) (fun j hj e => absurd ⟨j, hj, e⟩ h), -2, rfl, rfl⟩
theorem row_LL (hR : RelR g w σ) : ∃ LL : Nat → Nat, ∀ r, r < 18 → (¬ mA σ 12 r = 0 → mA σ 13 r = nI (LL r)) ∧ LL r ≤ 16 := by
  have h : ∀ r, ∃ L : Nat, r < 18 → (¬ mA σ 12 r = 0 → mA σ 13 r = nI L) ∧ L ≤ 16 := fun r => by
    by_cases hr : r < 18
    · obtain ⟨-, -, ⟨L, l1, l2⟩, -⟩ := flt_eq (hR r hr) 0
      exact ⟨L, fun _ => ⟨l2, l1⟩⟩
    · exact ⟨0, fun q => absurd q hr⟩
  exact ⟨fun r => (h r).choose, fun r hr => (h r).choose_spec hr⟩
theorem pair_value (hd : 3 ≤ d) (hI : INV g P O w σ) (v i : Int32) : Pair g d mX9_value mX10_value [.int v, .int i] w σ RD := by
  refine Pair_same hI (fun w hI => ?_)
  obtain ⟨hS, hR, ⟨hD, hRr, hL⟩, -⟩ := hI
  obtain ⟨LL, hLL⟩ := row_LL hRr
  by_cases h : ∃ j : Nat, j < 18 ∧ v = nI j
  · obtain ⟨j, hj, rfl⟩ := h
    obtain ⟨f1, f2, -, f4⟩ := flt_eq (hRr j hj) i
    have cl : ∀ Q : Option Value → GW → Prop, Q (some (.double (cGot g w j i))) w → gM g d mX9_value [.ref (eB g), .int (nI j), .int i] w Q := fun Q hQ => f_value (by omega) hS (fun z => absurd ⟨j, hj, rfl⟩ (rng_in (by decide) z)) (fun j' hj' e => by
      obtain rfl : j = j' := (nI_eq (by omega) (by omega)).mp e
      exact hQ)
    by_cases hz : mFaultOf σ j i 1 = 0
    · obtain ⟨l, l1, rfl, l3, l4⟩ := f4 (fUse_0 (f2.trans hz))
      refine ⟨_, .double (mD σ 14 (16 * j + l)), cl, fun w1 hS1 Q hQ => m_value (by omega) hS1 hLL (fun z => absurd ⟨j, hj, rfl⟩ ((fIn_hi 17 (by decide)).mp z)) (fun j' hj' e z => ?_) (fun j' l' hj' hl' e e2 z => ?_), mD σ 14 (16 * j + l), l4.1, ?_, rfl⟩
      · obtain rfl : j = j' := (nI_eq (by omega) (by omega)).mp e
        exact absurd hz z
      · obtain rfl : j = j' := (nI_eq (by omega) (by omega)).mp e
        obtain rfl : l = l' := (nI_eq (by omega) (by omega)).mp e2
        exact hQ
      · unfold cGot
        rw [if_pos (f2.trans hz), nI_clamp (by omega), l3]
    · refine ⟨_, .double FP.dconst0, cl, fun w1 hS1 Q hQ => m_value (by omega) hS1 hLL (fun z => hQ) (fun j' hj' e z => hQ) (fun j' l' hj' hl' e e2 z => ?_), FP.dconst0, DF_zero, ?_, rfl⟩
      · obtain rfl : j = j' := (nI_eq (by omega) (by omega)).mp e
        exact absurd z hz
      · unfold cGot
        rw [if_neg (by rw [f2]; exact hz)]
  · exact ⟨.double FP.dconst0, .double FP.dconst0, fun Q hQ => f_value (by omega) hS (fun z => hQ) (fun j hj e => absurd ⟨j, hj, e⟩ h), fun w1 hS1 Q hQ => m_value (by omega) hS1 hLL (fun z => hQ) (fun j hj e => absurd ⟨j, hj, e⟩ h) (fun j l hj hl e => absurd ⟨j, hj, e⟩ h), FP.dconst0, DF_zero, rfl, rfl⟩
theorem pair_isFitted (hd : 3 ≤ d) (hI : INV g P O w σ) (v i : Int32) : Pair g d mX9_isFitted mX10_isFitted [.int v, .int i] w σ RI := by
  refine Pair_same hI (fun w hI => ?_)
  obtain ⟨hS, hR, ⟨hD, hRr, hL⟩, -⟩ := hI
  obtain ⟨LL, hLL⟩ := row_LL hRr
  by_cases h : ∃ j : Nat, j < 18 ∧ v = nI j
  · obtain ⟨j, hj, rfl⟩ := h
    obtain ⟨f1, f2, -, f4⟩ := flt_eq (hRr j hj) i
    refine ⟨.int (cProbe g w j i), .int (if 16 ≤ j ∧ mFaultOf σ j i 1 = 0 then 1 else 0), fun Q hQ => f_isFitted (by omega) hS (fun z => absurd ⟨j, hj, rfl⟩ (rng_in (by decide) z)) (fun j' hj' e => ?_), fun w1 hS1 Q hQ => m_isFitted (by omega) hS1 hLL (fun z => absurd ⟨j, hj, rfl⟩ ((fIn_hi 17 (by decide)).mp z)) (fun j' hj' e => ?_), cProbe g w j i, rfl, ?_⟩
    · obtain rfl : j = j' := (nI_eq (by omega) (by omega)).mp e
      exact hQ
    · obtain rfl : j = j' := (nI_eq (by omega) (by omega)).mp e
      exact hQ
    · unfold cProbe
      rw [f2]
      by_cases z : 16 ≤ j ∧ mFaultOf σ j i 1 = 0
      · rw [if_pos z, if_pos ⟨by omega, z.2⟩]
      · rw [if_neg z, if_neg (fun q => z ⟨by omega, q.2⟩)]
  · exact ⟨.int 0, .int 0, fun Q hQ => f_isFitted (by omega) hS (fun z => hQ) (fun j hj e => absurd ⟨j, hj, e⟩ h), fun w1 hS1 Q hQ => m_isFitted (by omega) hS1 hLL (fun z => hQ) (fun j hj e => absurd ⟨j, hj, e⟩ h), 0, rfl, rfl⟩
theorem log_in {n j : Nat} (hn : n ≤ 800) (hj : j < n) (hu : gI w 257 (eB g + 68) = nI n) : cLog g w (nI j) = gD w (eB g + 69) j := by
  unfold cLog
  rw [if_neg, nI_clamp (by omega)]
  rw [hu]
  rintro (z | z | z)
  · exact nI_pos (by omega) z
  · exact nI_ge hj (by omega) z
  · exact nI_ge (b := 800) (by omega) (by decide) z
theorem log_out {n : Nat} {v : Int32} (hn : n ≤ 800) (hu : gI w 257 (eB g + 68) = nI n) (h : ¬ ∃ j : Nat, j < n ∧ v = nI j) : cLog g w v = FP.dconst0 := by
  unfold cLog
  rw [if_pos]
  rw [hu]
  rcases rng_out (by omega) h with z | z
  · exact Or.inl z
  · exact Or.inr (Or.inl z)
theorem fIn_len8 {n : Nat} (hn : n ≤ 800) {v : Int32} : fIn v 0 (nI n - 1) = 0 ↔ ¬ ∃ j : Nat, j < n ∧ v = nI j := by
  constructor
  · rintro h ⟨j, hj, rfl⟩
    have e : nI n - 1 = nI (n - 1) := by
      obtain ⟨m, rfl⟩ : ∃ m, n = m + 1 := ⟨n - 1, by omega⟩
      rw [← nI_1, Nat.add_sub_cancel]
      simp
    rw [e] at h
    exact (fIn_hi (n - 1) (by omega)).mp h ⟨j, by omega, rfl⟩
  · intro h
    rcases fIn_01 v 0 (nI n - 1) with q | q
    · exact q
    · exact absurd (log_ix (by omega) (by rw [q]; decide)) h
theorem pair_log (hd : 3 ≤ d) (hI : INV g P O w σ) (v : Int32) : Pair g d mX9_log mX10_log [.int v] w σ RD := by
  refine Pair_same hI (fun w hI => ?_)
  obtain ⟨hS, hR, ⟨hD, hRr, n, n1, n2, n3, n4⟩, -⟩ := hI
  by_cases h : ∃ j : Nat, j < n ∧ v = nI j
  · obtain ⟨j, hj, rfl⟩ := h
    obtain ⟨e1, e2⟩ := n4 j hj
    refine ⟨_, _, fun Q hQ => f_log (by omega) hS hQ, fun w1 hS1 Q hQ => m_log (by omega) hS1 n3 (by omega) (fun z => absurd ⟨j, hj, rfl⟩ ((fIn_len8 (by omega)).mp z)) (fun j' hj' e => ?_), mD σ 26 j, e2, by rw [log_in (by omega) hj n2, e1], rfl⟩
    obtain rfl : j = j' := (nI_eq (by omega) (by omega)).mp e
    exact hQ
  · exact ⟨_, _, fun Q hQ => f_log (by omega) hS hQ, fun w1 hS1 Q hQ => m_log (by omega) hS1 n3 (by omega) (fun z => hQ) (fun j hj e => absurd ⟨j, hj, e⟩ h), FP.dconst0, DF_zero, by rw [log_out (by omega) n2 h], rfl⟩
theorem pair_isMinus (hd : 3 ≤ d) (hI : INV g P O w σ) (v : Int32) : Pair g d mX9_isMinus mX10_isMinus [.int v] w σ RI := by
  refine Pair_same hI (fun w hI => ?_)
  obtain ⟨hS, hR, ⟨hD, hRr, n, n1, n2, n3, n4⟩, -⟩ := hI
  by_cases h : ∃ j : Nat, j < n ∧ v = nI j
  · obtain ⟨j, hj, rfl⟩ := h
    obtain ⟨e1, e2⟩ := n4 j hj
    have el : cLog g w (nI j) = mD σ 26 j := by rw [log_in (by omega) hj n2, e1]
    refine ⟨_, _, fun Q hQ => f_isMinus (by omega) hS (by rw [el]; exact e2) hQ, fun w1 hS1 Q hQ => m_isMinus (by omega) hS1 n3 (by omega) (fun j hj => (n4 j hj).2) (fun z => absurd ⟨j, hj, rfl⟩ ((fIn_len8 (by omega)).mp z)) (fun j' hj' e => ?_), sMin (mD σ 26 j), by rw [el], rfl⟩
    obtain rfl : j = j' := (nI_eq (by omega) (by omega)).mp e
    exact hQ
  · have el : cLog g w v = FP.dconst0 := log_out (by omega) n2 h
    refine ⟨_, _, fun Q hQ => f_isMinus (by omega) hS (by rw [el]; exact DF_zero) hQ, fun w1 hS1 Q hQ => m_isMinus (by omega) hS1 n3 (by omega) (fun j hj => (n4 j hj).2) (fun z => hQ) (fun j hj e => absurd ⟨j, hj, e⟩ h), 0, ?_, rfl⟩
    rw [el, sMin_zs DF_zero, z_0.1]
    rfl
theorem pair_count (hd : 3 ≤ d) (hI : INV g P O w σ) (v : Int32) : Pair g d mX9_count mX10_count [.int v] w σ RI := by
  refine Pair_same hI (fun w hI => ?_)
  obtain ⟨hS, hR, ⟨hD, hRr, n, n1, n2, n3, n4⟩, ⟨c1, c2, c3, c4⟩, -, r, hr, ra, rb⟩ := hI
  obtain ⟨s, bs, hRT⟩ := hR r hr
  obtain ⟨p1, p2, p3, p4, -⟩ := hRT.1
  refine ⟨_, _, fun Q hQ => f_count hS hr ra hQ, fun w1 hS1 Q hQ => m_count hS1 rb hr hQ, mCount σ r v, ?_, rfl⟩
  unfold cCount mCount
  rw [p2, p3, p4, c1, c2, c3, n2, n3]
theorem pair_fault (hd : 3 ≤ d) (hI : INV g P O w σ) (v : Int32) : Pair g d mX9_fault mX10_fault [.int v] w σ RI := by
  refine Pair_same hI (fun w hI => ?_)
  obtain ⟨hS, hR, hD, ⟨c1, c2, c3, c4⟩, -⟩ := hI
  rcases c4 with ⟨z1, z2⟩ | ⟨f, φ, nf, d1, d2, d3, d4⟩
  · exact ⟨.int (-1), .int (-1), fun Q hQ => f_faultNo hS z1 hQ, fun w1 hS1 Q hQ => m_faultNo hS1 (by rw [z2]; decide) hQ, -1, rfl, rfl⟩
  · obtain ⟨ho, kd, m, h1, h2, h3, h4, h5, h6, h7, h8, h9, hc, h10, h11⟩ := d4
    refine ⟨_, _, fun Q hQ => f_faultYes hS d2 ho hQ, fun w1 hS1 Q hQ => m_faultYes (by omega) hS1 d3 d1 hc (by omega) h9 hQ, mFaultV σ φ m v, ?_, rfl⟩
    unfold cFaultV mFaultV
    rw [h4, h5, h6, h7, h8, h9, h10, h11]
/-! choose, clear -/
theorem pair_choose (hd : 3 ≤ d) (hI : INV g P O w σ) (v : Int32) : Pair g d mX9_choose mX10_choose [.int v] w σ RI := by
  refine Pair_inv hI (fun w hM hI => ?_)
  by_cases h : ∃ j : Nat, j < 4 ∧ v = nI j
  · obtain ⟨j, hj, rfl⟩ := h
    obtain ⟨hS, hR, hD, ⟨c1, c2, c3, c4⟩, hT, r, hr, ra, rb⟩ := hI
    obtain ⟨s, bs, hRT⟩ := hR j hj
    obtain ⟨p1, p2, p3, p4, -⟩ := hRT.1
    have hR4 : ∀ c a, ¬ c = 4 → gR (setR w 4 (eB g + 1) (some (aRt g j))) c a = gR w c a := fun c a hc => by rw [gR_setR, up2_ne _ _ (by omega)]
    have hob : ∀ a k, gOb g w a k → gOb g (setR w 4 (eB g + 1) (some (aRt g j))) a k := fun a k ha => ⟨ha.1, by rw [gN_setR]; exact ha.2.1, by rw [gK_setR]; exact ha.2.2⟩
    refine ⟨.int (gI w 323 (aRt g j)), .int (mA σ 6 j), P, O, setR w 4 (eB g + 1) (some (aRt g j)), sI σ 11 (nI j), fun Q hQ => f_choose (by omega) hS (fun z => absurd ⟨j, hj, rfl⟩ (rng_in (by decide) z)) (fun j' hj' e => ?_), ⟨fun f hf => by rw [gI_setR]; exact hM.1 f hf, fun jj i hjj => by rw [gA_setR]; exact hM.2.1 jj i hjj, fun jj i hjj => by rw [gD_setR]; exact hM.2.2 jj i hjj⟩, fun w1 hS1 Q hQ => m_choose (by omega) hS1 (fun z => absurd ⟨j, hj, rfl⟩ ((fIn_hi 3 (by decide)).mp z)) (fun j' hj' e => ?_), ⟨nI s, by rw [p2], by rw [p3]⟩, ⟨hS.setR 4 _ _ (by decide +kernel), fun r' hr' => ?_, ?_, ⟨by rw [gI_setR, mI_sI, if_neg (by decide)]; exact c1, by rw [gI_setR, mI_sI, if_neg (by decide)]; exact c2, by rw [gI_setR, mI_sI, if_neg (by decide)]; exact c3, ?_⟩, hT, j, hj, by rw [gR_setR, up2_at], by rw [mI_sI, if_pos rfl]⟩, by rw [gN_setR]; omega, by rw [gU_setR]; omega⟩
    · obtain rfl : j = j' := (nI_eq (by omega) (by omega)).mp e
      exact hQ
    · obtain rfl : j = j' := (nI_eq (by omega) (by omega)).mp e
      exact hQ
    · obtain ⟨s', bs', ⟨q1, q2, q3, q4, q5, q6, q7⟩, hOw, h7, hBC, hMB, hCT⟩ := hR r' hr'
      refine ⟨s', bs', ⟨q1, by rw [gI_setR]; exact q2, q3, by rw [gI_setR]; exact q4, fun i hi => ?_, q6, q7⟩, hOw, h7, ?_, hMB, hCT⟩
      · obtain ⟨x1, x2, x3, x4, x5, x6, x7, x8, x9, x10, x11⟩ := q5 i hi
        refine ⟨by rw [gP_setR]; exact x1, hob _ _ x2, by rw [gI_setR]; exact x3, by rw [gI_setR]; exact x4, by rw [gI_setR]; exact x5, by rw [gI_setR]; exact x6, by rw [gI_setR]; exact x7, by rw [gI_setR]; exact x8, by rw [gI_setR]; exact x9, by rw [hR4 _ _ (by decide)]; exact x10, x11⟩
      · rw [hR4 _ _ (by decide)]
        cases hb : gR w 322 (aRt g r') with
        | none => rw [hb] at hBC; exact BC_keep (B := 0) (fun _ _ => rfl) hob (fun a ha => absurd ha (Nat.not_lt_zero _)) bs' none (fun _ _ => ⟨rfl, rfl⟩) (fun q hq => by cases hq) hBC
        | some q0 => rw [hb] at hBC; exact BC_keep (B := q0 + 1) (fun _ _ => rfl) hob (fun a _ _ => ⟨by rw [gI_setR], hR4 _ _ (by decide), hR4 _ _ (by decide), hR4 _ _ (by decide)⟩) bs' (some q0) (fun _ _ => ⟨rfl, rfl⟩) (fun q hq => by cases hq; omega) hBC
    · exact DRL_same (Nat.le_refl _) ⟨gD_setR _ _ _ _, gA_setR _ _ _ _, fun _ _ => by rw [gI_setR], by rw [gI_setR], rfl, fun _ _ _ => rfl, by rw [mI_sI, if_neg (by decide)]⟩ hD
    · rw [hR4 _ _ (by decide), mI_sI, if_neg (by decide)]
      rcases c4 with c4 | ⟨f, φ, nf, d1, d2, d3, d4⟩
      · exact Or.inl c4
      · exact Or.inr ⟨f, φ, nf, d1, d2, d3, FR_keep d1 (fun _ _ _ _ => rfl) hob (fun c z1 z2 => by rw [gI_setR]) d4⟩
  · exact ⟨.int (-1), .int (-1), P, O, w, σ, fun Q hQ => f_choose (by omega) hI.1 (fun z => hQ) (fun j hj e => absurd ⟨j, hj, e⟩ h), hM, fun w1 hS1 Q hQ => m_choose (by omega) hS1 (fun z => hQ) (fun j hj e => absurd ⟨j, hj, e⟩ h), ⟨-1, rfl, rfl⟩, hI, by omega, by omega⟩
theorem pair_clear (hd : 3 ≤ d) (hI : INV g P O w σ) : Pair g d mX9_clear mX10_clear [] w σ RI := by
  refine Pair_inv hI (fun w hM hI => ?_)
  obtain ⟨hS, hR, hD, hC, hT, r, hr, ra, rb⟩ := id hI
  obtain ⟨s, bs, hRT⟩ := hR r hr
  obtain ⟨p1, p2, p3, p4, -⟩ := hRT.1
  have hF : SFr g O r w (setR (setI (setI w 323 (aRt g r) 0) 324 (aRt g r) 0) 322 (aRt g r) none) := (((SFr_refl g O r w).I 323 _ 0 (Or.inr ⟨by omega, Or.inl rfl⟩)).I 324 _ 0 (Or.inr ⟨by omega, Or.inl rfl⟩)).R 322 _ none (Or.inr ⟨by omega, Or.inl rfl⟩)
  have hMS : MSF σ (sA (sA σ 6 r 0) 7 r 0) r := ((MSF_refl σ r).A 6 r 0 (by omega)).A 7 r 0 (by omega)
  have m7 : mA (sA (sA σ 6 r 0) 7 r 0) 7 r = 0 := by rw [mA_sA, if_pos ⟨rfl, rfl⟩]
  refine ⟨_, _, P, O, setR (setI (setI w 323 (aRt g r) 0) 324 (aRt g r) 0) 322 (aRt g r) none, sA (sA σ 6 r 0) 7 r 0, fun Q hQ => f_clear (by omega) hS hr ra hQ, MP_sfr hS hM hF, fun w1 hS1 Q hQ => m_clear hS1 rb hr hQ, ⟨nI s, by rw [p2], by rw [p3]⟩, INV_step hI hr hF hMS (fun _ _ => rfl) (fun _ _ => ⟨rfl, rfl, rfl⟩) ⟨0, [], ⟨⟨by omega, ?_, ?_, ?_, fun i hi => absurd hi (Nat.not_lt_zero _), fun i j hi => absurd hi (Nat.not_lt_zero _), fun i hi => absurd hi (Nat.not_lt_zero _)⟩, fun i hi => absurd hi (Nat.not_lt_zero _), m7, ?_, fun k hk => absurd hk (Nat.not_lt_zero _), 6, false, false, 0, 0, ⟨rfl, rfl, rfl, rfl⟩, rfl⟩⟩, by rw [gN_setR, gN_setI, gN_setI]; omega, by rw [gU_setR, gU_setI, gU_setI]; omega⟩
  · rw [gI_setR, gI_setI, up2_ne _ _ (by omega), gI_setI, up2_at]; rfl
  · rw [mA_sA, if_neg (by omega), mA_sA, if_pos ⟨rfl, rfl⟩]; rfl
  · rw [gI_setR, gI_setI, up2_at, m7]
  · show gR _ 322 (aRt g r) = none
    rw [gR_setR, up2_at]
end PAIRS
