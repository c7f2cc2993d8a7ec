section WORK2
variable {g : GE} {P : PG} {d d2 r s i c nf : Nat} {w : GW} {σ : MW}
theorem wk_get (h : WX g P d d2 r i c nf w σ) (hw : mA σ 0 (40 * r + i) = 16) {a b e : Nat} (ha2 : a < 18) (hb2 : b < 8) (hc2 : e < 8) (ha : mA σ 1 (40 * r + i) = nI a) (hb : mA σ 2 (40 * r + i) = nI b) (hc : mA σ 3 (40 * r + i) = nI e) : WOK g P d d2 w σ r i (c + 1) nf := by
  have hR := h.drl
  obtain ⟨h1, h2, h3, h4, h5, hS, h7, h8, h9, h10, q1, q2, q3, q4, q5⟩ := h
  have e67 := (h7 b hb2).1
  obtain ⟨f1, f2, ⟨L, hL2, hL⟩, f4⟩ := flt_eq (h8 a ha2) (FP.d2i (mD σ 11 b))
  have fe : fUse g w a (FP.d2i (mD σ 11 b)) = mFaultOf σ a (FP.d2i (mD σ 11 b)) 1 := f2
  rcases mFault_rng (σ := σ) a (FP.d2i (mD σ 11 b)) 1 with z | ⟨kd, k1, k2, z2, z, z3⟩
  · obtain ⟨j, j1, j2, j3, j4⟩ := f4 (fUse_0 (fe.trans z))
    refine WOK_dial hR (b := e) j4 (fun Q hQ => c_workRow16 (q2.trans hw) (fun Q2 hQ2 => c_wwGet (by omega) hS q1 ha2 (q3.trans ha) (q4.trans hb) hb2 (q2.trans hw) (q5.trans hc) hc2 (by rw [e67, fe]; exact z) j1 (by rw [e67]; exact j2) (by rw [j3]; exact j4.2) (by rw [j3]; exact hQ2)) hQ) (fun w' hS' Q hQ => m_workGet (by omega) hS' h3 ha hw (m_onGet (by omega) hS' h3 ha ha2 hb hb2 hL hL2 hw j1 j2 z hc hc2 ⟨rfl, hQ⟩))
  · exact WOK_fail k1 k2 (fun Q hQ => c_workRow16 (q2.trans hw) (fun Q2 hQ2 => c_wwGetF (by omega) hS q1 ha2 (q3.trans ha) (q4.trans hb) hb2 (q2.trans hw) (by rw [e67, fe]; exact z3) (q5.trans hc) (by rw [e67, fe, z2]; exact hQ2)) hQ) (fun w' hS' Q hQ => m_workGet (by omega) hS' h3 ha hw (m_onGetF (by omega) hS' h3 ha ha2 hb hb2 hL hL2 hw h10 h5 z ⟨rfl, by rw [z2]; exact hQ⟩))
theorem wk_put (h : WX g P d d2 r i c nf w σ) (hw : mA σ 0 (40 * r + i) = 17) {a b e : Nat} (ha2 : a < 18) (hb2 : b < 8) (hc2 : e < 8) (ha : mA σ 1 (40 * r + i) = nI a) (hb : mA σ 2 (40 * r + i) = nI b) (hc : mA σ 3 (40 * r + i) = nI e) : WOK g P d d2 w σ r i (c + 1) nf := by
  have hR := h.drl
  obtain ⟨h1, h2, h3, h4, h5, hS, h7, h8, h9, h10, q1, q2, q3, q4, q5⟩ := h
  have e67 := (h7 b hb2).1
  obtain ⟨f1, f2, ⟨L, hL2, hL⟩, f4⟩ := flt_eq (h8 a ha2) (FP.d2i (mD σ 11 b))
  have fe : fUse g w a (FP.d2i (mD σ 11 b)) = mFaultOf σ a (FP.d2i (mD σ 11 b)) 1 := f2
  obtain ⟨ee, eo⟩ := h7 e hc2
  have nf1 : vf_n32 (FP.d2f (gD w (eB g + 67) e)) := by rw [ee]; exact n32 (z_d2f eo).1.nn
  have nf2 : vf_n64 (FP.f2d (FP.d2f (gD w (eB g + 67) e))) := by rw [ee]; exact nn32_f2d (z_d2f eo).1.nn
  rcases mFault_rng (σ := σ) a (FP.d2i (mD σ 11 b)) 1 with z | ⟨kd, k1, k2, z2, z, z3⟩
  · obtain ⟨j, j1, j2, j3, j4⟩ := f4 (fUse_0 (fe.trans z))
    refine ⟨0, setD w (aRd g a) j (fHeld (a / 2) (mD σ 11 e)), fun Q hQ => c_workRow17 (q2.trans hw) (fun Q2 hQ2 => c_wwPut (by omega) hS q1 ha2 (q3.trans ha) (q4.trans hb) hb2 (q2.trans hw) (q5.trans hc) hc2 nf1 nf2 (by rw [e67, fe]; exact z) j1 (by rw [e67]; exact j2) (by rw [ee]; exact hQ2)) hQ, CFr_setD _ _ _ (Or.inr (Or.inr ⟨a, ha2, rfl⟩)), rfl, fun _ => rfl, rfl, Or.inl ⟨rfl, sD σ 14 (16 * a + j) (fHeld (a / 2) (mD σ 11 e)), fun w' hS' Q hQ => m_workPut (by omega) hS' h3 ha hw (m_onPut (by omega) hS' h3 ha ha2 hb hb2 hL hL2 hw j1 j2 z hc hc2 (by rw [← ee]; exact nf1) (by rw [← ee]; exact nf2) ⟨rfl, hQ⟩), DRL_cell hR ha2 j1 (dOK_held eo), MFr_sD, fun _ _ => rfl⟩⟩
  · exact WOK_fail k1 k2 (fun Q hQ => c_workRow17 (q2.trans hw) (fun Q2 hQ2 => c_wwPutF (by omega) hS q1 ha2 (q3.trans ha) (q4.trans hb) hb2 (q2.trans hw) (q5.trans hc) hc2 nf1 nf2 (by rw [e67, fe]; exact z3) (by rw [e67, fe, z2]; exact hQ2)) hQ) (fun w' hS' Q hQ => m_workPut (by omega) hS' h3 ha hw (m_onPutF (by omega) hS' h3 ha ha2 hb hb2 hL hL2 hw h10 h5 z ⟨rfl, by rw [z2]; exact hQ⟩))
theorem DRL_fit {a j : Nat} (hR : DRL g w σ c) (ha2 : a < 18) (ha16 : 16 ≤ a) (hj : j < 16) : DRL g (setA w (aRz g a) j 1) (sA σ 15 (16 * a + j) 1) c := by
  obtain ⟨h1, h2, h3⟩ := hR
  refine ⟨RelD_same h1 (fun _ => rfl) (fun _ => rfl), fun r hr => ?_, RelL_same h3 (Nat.le_refl c) rfl (fun _ => rfl) (fun _ => rfl) rfl⟩
  by_cases e : r = a
  · subst e
    rcases h2 r hr with q | ⟨m, q1, q2, q3, q4, q5⟩
    · exact Or.inl ⟨q.1, by rw [mA_sA, if_neg (by omega)]; exact q.2⟩
    · refine Or.inr ⟨m, q1, q2, by rw [mA_sA, if_neg (by omega)]; exact q3, by rw [mA_sA, if_neg (by omega)]; exact q4, fun i hi => ?_⟩
      obtain ⟨y1, y2, y3, y4⟩ := q5 i hi
      by_cases ei : i = j
      · subst ei
        have e1 : mA (sA σ 15 (16 * r + i) 1) 15 (16 * r + i) = 1 := by rw [mA_sA, if_pos ⟨rfl, rfl⟩]
        rw [e1, gA_setA, up2_at, if_neg (by omega)]
        exact ⟨y1, y2, rfl, Or.inr rfl⟩
      · have e1 : mA (sA σ 15 (16 * r + j) 1) 15 (16 * r + i) = mA σ 15 (16 * r + i) := by rw [mA_sA, if_neg (by omega)]
        rw [e1, gA_setA, up2_ne _ _ (by omega)]
        exact ⟨y1, y2, y3, y4⟩
  · exact RelR1_same (h2 r hr) rfl (fun _ _ => rfl) (fun i _ => gA_set_ne (aRz_inj e)) (fun _ _ => rfl) (by rw [mA_sA, if_neg (by omega)]) (by rw [mA_sA, if_neg (by omega)]) (fun i _ => by rw [mA_sA, if_neg (by omega)])
theorem wk_fit (h : WX g P d d2 r i c nf w σ) (hw : mA σ 0 (40 * r + i) = 18) {a b : Nat} (ha16 : 16 ≤ a) (ha2 : a < 18) (hb2 : b < 8) (ha : mA σ 1 (40 * r + i) = nI a) (hb : mA σ 2 (40 * r + i) = nI b) : WOK g P d d2 w σ r i (c + 1) nf := by
  have hR := h.drl
  obtain ⟨h1, h2, h3, h4, h5, hS, h7, h8, h9, h10, q1, q2, q3, q4, q5⟩ := h
  have e67 := (h7 b hb2).1
  obtain ⟨f1, f2, ⟨L, hL2, hL⟩, f4⟩ := flt_eq (h8 a ha2) (FP.d2i (mD σ 11 b))
  have fe : fFaultAt (rowPl g w a) (FP.d2i (mD σ 11 b)) = mFaultOf σ a (FP.d2i (mD σ 11 b)) 0 := f1
  rcases mFault_rng (σ := σ) a (FP.d2i (mD σ 11 b)) 0 with z | ⟨kd, k1, k2, z2, z, z3⟩
  · obtain ⟨j, j1, j2, j3, j4⟩ := f4 (fe.trans z)
    refine ⟨0, setA (setD w (aRd g a) j FP.dconst0) (aRz g a) j 1, fun Q hQ => c_workRow18 (q2.trans hw) (fun Q2 hQ2 => c_wwFit (by omega) hS q1 ha2 (q3.trans ha) (q4.trans hb) hb2 (q2.trans hw) (by rw [e67, fe]; exact z) j1 (by rw [e67]; exact j2) hQ2) hQ, (CFr_setD _ _ _ (Or.inr (Or.inr ⟨a, ha2, rfl⟩))).thn (CFr_setA a j 1 ha2), rfl, fun _ => rfl, rfl, Or.inl ⟨rfl, sD (sA σ 15 (16 * a + j) 1) 14 (16 * a + j) FP.dconst0, fun w' hS' Q hQ => m_workFit (by omega) hS' h3 ha hw (m_onFit (by omega) hS' h3 ha ha2 hb hb2 hL hL2 hw j1 j2 z ⟨rfl, hQ⟩), ?_, (MFr_sA (by omega)).D 14 _ _, fun _ _ => rfl⟩⟩
    exact DRL_cell (DRL_fit hR ha2 ha16 j1) ha2 j1 dOK_0
  · exact WOK_fail k1 k2 (fun Q hQ => c_workRow18 (q2.trans hw) (fun Q2 hQ2 => c_wwFitF (by omega) hS q1 ha2 (q3.trans ha) (q4.trans hb) hb2 (q2.trans hw) (by rw [e67, fe]; exact z3) (by rw [e67, fe, z2]; exact hQ2)) hQ) (fun w' hS' Q hQ => m_workFit (by omega) hS' h3 ha hw (m_onFitF (by omega) hS' h3 ha ha2 hb hb2 hL hL2 hw h10 h5 z ⟨rfl, by rw [z2]; exact hQ⟩))
/-! a row is made -/
theorem gD_cMk {a : Nat} : ∀ k b i, gD (cMk g w a k) b i = if b = aRd g a ∧ i < k then FP.dconst0 else gD w b i
  | 0, b, i => by rw [if_neg (by omega)]; rfl
  | k + 1, b, i => by
    show up2 (gD (cMk g w a k)) (aRd g a) k FP.dconst0 b i = _
    unfold up2
    rw [gD_cMk k b i]
    by_cases h1 : b = aRd g a ∧ i = k
    · rw [if_pos h1, if_pos (by omega)]
    · rw [if_neg h1]
      by_cases h2 : b = aRd g a ∧ i < k
      · rw [if_pos h2, if_pos (by omega)]
      · rw [if_neg h2, if_neg (by omega)]
theorem gA_cMk {a : Nat} : ∀ k b i, gA (cMk g w a k) b i = if b = aRz g a ∧ i < k then (if a / 2 = 8 then 0 else 1) else gA w b i
  | 0, b, i => by rw [if_neg (by omega)]; rfl
  | k + 1, b, i => by
    show up2 (gA (cMk g w a k)) (aRz g a) k _ b i = _
    unfold up2
    rw [gA_cMk k b i]
    generalize (if a / 2 = 8 then (0 : Int32) else 1) = V
    by_cases h1 : b = aRz g a ∧ i = k
    · rw [if_pos h1, if_pos (by omega)]
    · rw [if_neg h1]
      by_cases h2 : b = aRz g a ∧ i < k
      · rw [if_pos h2, if_pos (by omega)]
      · rw [if_neg h2, if_neg (by omega)]
theorem CFr_cMk {a : Nat} (ha : a < 18) : ∀ k, CFr g w (cMk g w a k) ∧ gN (cMk g w a k) = gN w ∧ gI (cMk g w a k) = gI w ∧ gR (cMk g w a k) = gR w
  | 0 => ⟨CFr_refl g w, rfl, rfl, rfl⟩
  | k + 1 => by
    obtain ⟨h1, h2, h3, h4⟩ := CFr_cMk ha k
    exact ⟨(h1.thn (CFr_setD _ _ _ (Or.inr (Or.inr ⟨a, ha, rfl⟩)))).thn (CFr_setA a k _ ha), h2, h3, h4⟩
theorem mD_mMk {a : Nat} : ∀ k j i, mD (mMk σ a k) j i = if j = 14 ∧ 16 * a ≤ i ∧ i < 16 * a + k then FP.dconst0 else mD σ j i
  | 0, j, i => by rw [if_neg (by omega)]; rfl
  | k + 1, j, i => by
    show (if j = 14 ∧ i = 16 * a + k then FP.dconst0 else mD (mMk σ a k) j i) = _
    rw [mD_mMk k j i]
    by_cases h1 : j = 14 ∧ i = 16 * a + k
    · rw [if_pos h1, if_pos (by omega)]
    · rw [if_neg h1]
      by_cases h2 : j = 14 ∧ 16 * a ≤ i ∧ i < 16 * a + k
      · rw [if_pos h2, if_pos (by omega)]
      · rw [if_neg h2, if_neg (by omega)]
theorem mA_mMk {a : Nat} : ∀ k j i, mA (mMk σ a k) j i = if j = 15 ∧ 16 * a ≤ i ∧ i < 16 * a + k then 0 else mA σ j i
  | 0, j, i => by rw [if_neg (by omega)]; rfl
  | k + 1, j, i => by
    show (if j = 15 ∧ i = 16 * a + k then 0 else mA (mMk σ a k) j i) = _
    rw [mA_mMk k j i]
    by_cases h1 : j = 15 ∧ i = 16 * a + k
    · rw [if_pos h1, if_pos (by omega)]
    · rw [if_neg h1]
      by_cases h2 : j = 15 ∧ 16 * a ≤ i ∧ i < 16 * a + k
      · rw [if_pos h2, if_pos (by omega)]
      · rw [if_neg h2, if_neg (by omega)]
theorem MFr_mMk {a b n : Nat} : ∀ k, MFr σ (mMk σ a k) b n ∧ mI (mMk σ a k) = mI σ
  | 0 => ⟨MFr_refl σ b n, rfl⟩
  | k + 1 => ⟨((MFr_mMk k).1.D 14 _ _).A 15 _ 0 (by omega), (MFr_mMk (b := b) (n := n) k).2⟩
theorem wk_make (h : WX g P d d2 r i c nf w σ) (hw : mA σ 0 (40 * r + i) = 13) {a b : Nat} (ha2 : a < 18) (hb2 : b < 8) (ha : mA σ 1 (40 * r + i) = nI a) (hb : mA σ 2 (40 * r + i) = nI b) : WOK g P d d2 w σ r i (c + 1) nf := by
  have hR := h.drl
  obtain ⟨h1, h2, h3, h4, h5, hS, h7, h8, h9, h10, q1, q2, q3, q4, q5⟩ := h
  have e67 := (h7 b hb2).1
  by_cases hz : 16 < FP.d2i (mD σ 11 b)
  · exact WOK_fail (kd := 8) (by decide) (by decide) (fun Q hQ => c_workRow13 (q2.trans hw) (fun Q2 hQ2 => c_wwMake (v := 8) (by omega) hS q1 ha2 (q3.trans ha) (q4.trans hb) hb2 (q2.trans hw) (fun Q3 hQ3 => c_makeBig (by rw [e67]; exact hz) hQ3) hQ2) hQ) (fun w' hS' Q hQ => m_workMake (by omega) hS' h3 ha hw hb hb2 ha2 (m_makeBig (by omega) hS' ha2 h10 h5 hz ⟨rfl, hQ⟩))
  · by_cases hz2 : FP.d2i (mD σ 11 b) < 0
    · exact WOK_fail (kd := 5) (by decide) (by decide) (fun Q hQ => c_workRow13 (q2.trans hw) (fun Q2 hQ2 => c_wwMake (v := 5) (by omega) hS q1 ha2 (q3.trans ha) (q4.trans hb) hb2 (q2.trans hw) (fun Q3 hQ3 => c_makeNeg (by rw [e67]; exact hz2) hQ3) hQ2) hQ) (fun w' hS' Q hQ => m_workMake (by omega) hS' h3 ha hw hb hb2 ha2 (m_makeNeg (by omega) hS' ha2 h10 h5 hz2 ⟨rfl, hQ⟩))
    · obtain ⟨n, hn, en⟩ := nI_of hz2
      have hn16 : n ≤ 16 := by
        rw [en] at hz
        rcases Nat.lt_or_ge 16 n with z | z
        · exact absurd (nI_lt (a := 16) z hn) hz
        · exact z
      obtain ⟨g1, g2, g3, g4⟩ := CFr_cMk (g := g) (w := w) ha2 n
      have hz3 : FP.d2i (mD σ 11 b) ≤ 16 := by rw [en]; exact nI_le (b := 16) hn16 (by decide)
      have hz4 : 0 ≤ FP.d2i (mD σ 11 b) := by rw [en]; exact nI_pos' hn
      refine ⟨0, setI (cMk g w a n) 387 (aRow g a) (nI n), fun Q hQ => c_workRow13 (q2.trans hw) (fun Q2 hQ2 => c_wwMake (v := 0) (by omega) hS q1 ha2 (q3.trans ha) (q4.trans hb) hb2 (q2.trans hw) (fun Q3 hQ3 => by rw [e67, en]; exact c_makeOn hS ha2 hn16 hQ3) hQ2) hQ, g1.thn (CFr_setI 387 _ _ (by omega)), g2, fun f => ?_, g4, Or.inl ⟨rfl, mMake σ a (nI n), fun w' hS' Q hQ => m_workMake (by omega) hS' h3 ha hw hb hb2 ha2 (m_makeOn hS' ha2 hz3 hz4 ⟨rfl, by rw [en]; exact hQ⟩), ⟨?_, fun r' hr' => ?_, ?_⟩, ?_, fun f hf => ?_⟩⟩
      · rw [gI_setI, up2_ne _ _ (by unfold aRow; omega), g3]
      · exact RelD_same h7 (fun i => by rw [gD_setI, gD_cMk, if_neg (fun q => aRd_67 ha2 q.1.symm)]) (fun i => by unfold mMake; rw [mD_mMk, if_neg (by omega)]; rfl)
      · by_cases e : r' = a
        · subst e
          refine Or.inr ⟨n, hn16, by rw [gI_setI, up2_at], ?_, ?_, fun j hj => ⟨?_, ?_, ?_, ?_⟩⟩
          · unfold mMake; rw [mA_mMk, if_neg (by omega), mA_sA, if_neg (by omega), mA_sA, if_pos ⟨rfl, rfl⟩]
          · unfold mMake; rw [mA_mMk, if_neg (by omega), mA_sA, if_pos ⟨rfl, rfl⟩]
          · rw [gD_setI, gD_cMk, if_pos ⟨rfl, hj⟩]; unfold mMake; rw [mD_mMk, if_pos (by omega)]
          · unfold mMake; rw [mD_mMk, if_pos (by omega)]; exact dOK_0
          · have e15 : mA (mMake σ r' (nI n)) 15 (16 * r' + j) = 0 := by unfold mMake; rw [mA_mMk, if_pos (by omega)]
            rw [gA_setI, gA_cMk, if_pos ⟨rfl, hj⟩, e15]
            by_cases h16 : r' < 16
            · rw [if_pos h16, if_neg (by omega)]
            · rw [if_neg h16, if_pos (by omega)]
          · unfold mMake; rw [mA_mMk, if_pos (by omega)]; exact Or.inl rfl
        · refine RelR1_same (h8 r' hr') (by rw [gI_setI, up2_ne _ _ (fun q => aRow_inj e q.2), g3]) (fun i _ => by rw [gD_setI, gD_cMk, if_neg (fun q => aRd_inj e q.1)]) (fun i _ => by rw [gA_setI, gA_cMk, if_neg (fun q => aRz_inj e q.1)]) (fun i _ => by unfold mMake; rw [mD_mMk, if_neg (by omega)]; rfl) ?_ ?_ (fun i _ => ?_)
          · unfold mMake; rw [mA_mMk, if_neg (by omega), mA_sA, if_neg (by omega), mA_sA, if_neg (by omega)]
          · unfold mMake; rw [mA_mMk, if_neg (by omega), mA_sA, if_neg (by omega), mA_sA, if_neg (by omega)]
          · unfold mMake; rw [mA_mMk, if_neg (by omega), mA_sA, if_neg (by omega), mA_sA, if_neg (by omega)]
      · exact RelL_same hR.2.2 (Nat.le_refl _) (by rw [gI_setI, up2_ne _ _ (by omega), g3]) (fun i => by rw [gD_setI, gD_cMk, if_neg (fun q => aRd_69 q.1.symm)]) (fun i => by unfold mMake; rw [mD_mMk, if_neg (by omega)]; rfl) (by unfold mMake; rw [(MFr_mMk (b := 0) (n := 0) 16).2]; rfl)
      · exact ((MFr_sA (by omega)).A 13 a _ (by omega)).thn (MFr_mMk 16).1 (Nat.le_refl _) (Nat.le_refl _)
      · unfold mMake; rw [(MFr_mMk (b := 0) (n := 0) 16).2]; rfl
theorem wk_fine (h : WX g P d d2 r i c nf w σ) (hw : mA σ 0 (40 * r + i) = 20) {hh b e : Nat} (ha2 : hh < 14) (hb2 : b < 8) (hc2 : e < 8) (ha : mA σ 1 (40 * r + i) = nI hh) (hb : mA σ 2 (40 * r + i) = nI b) (hc : mA σ 3 (40 * r + i) = nI e) : WOK g P d d2 w σ r i (c + 1) nf := by
  have hR := h.drl
  obtain ⟨h1, h2, h3, h4, h5, hS, h7, h8, h9, h10, q1, q2, q3, q4, q5⟩ := h
  obtain ⟨eb, ob⟩ := h7 b hb2
  obtain ⟨ee, oe⟩ := h7 e hc2
  have e3 : gI w 449 (pQ P r i) = 3 ∨ gI w 449 (pQ P r i) = 4 ↔ hh = 3 ∨ hh = 4 := by
    rw [q3, ha]
    exact or_congr (nI_eq (b := 3) (by omega) (by decide)) (nI_eq (b := 4) (by omega) (by decide))
  have main : (hh = 3 ∨ hh = 4 → ¬ FP.dcmp (mD σ 11 e) FP.dconst0 = some .eq) → WOK g P d d2 w σ r i (c + 1) nf := by
    intro h0
    have hsum : ∀ Q1 : Option Value → GW → Prop, Q1 (some (.double (fFine (nI hh) (mD σ 11 b) (mD σ 11 e)))) w → gM g (d - 1 - 1) mX8_fine [.int (gI w 449 (pQ P r i)), .double (gD w (eB g + 67) b), .double (gD w (eB g + 67) e)] w Q1 := fun Q1 hQ1 => by
      rw [q3, ha, eb, ee]
      exact c_fine (by omega) ob oe ha2 h0 hQ1
    by_cases hbe : fBeyond (fFine (nI hh) (mD σ 11 b) (mD σ 11 e))
    · refine WOK_fail (kd := 8) (by decide) (by decide) (fun Q hQ => c_workFine (by omega) hS q1 (q2.trans hw) (v := 8) (fun Q2 hQ2 => ?_) hQ) (fun w' hS' Q hQ => m_workFine (by omega) hS' h3 ha hw (m_fine (by omega) hS' ha2 h3 ha hb hb2 hc hc2 h10 h5 ob.1 oe.1 h0 (fun _ => ⟨rfl, hQ⟩) (fun z => absurd hbe z)))
      by_cases h34 : hh = 3 ∨ hh = 4
      · exact c_doFineD (by omega) hS q1 (q4.trans hb) hb2 (q5.trans hc) hc2 (e3.mpr h34) (by rw [ee]; exact h0 h34) hsum (fun _ => hQ2) (fun z => absurd hbe z)
      · exact c_doFineN (by omega) hS q1 (q4.trans hb) hb2 (q5.trans hc) hc2 (fun z => h34 (e3.mp z)) hsum (fun _ => hQ2) (fun z => absurd hbe z)
    · refine WOK_dial hR (b := b) (v := (fFine (nI hh) (mD σ 11 b) (mD σ 11 e))) (dOK_nb (nn_fine ob.1 oe.1 (fun q => h0 (q.elim (fun z => Or.inl ((nI_eq (b := 3) (by omega) (by decide)).mp z)) (fun z => Or.inr ((nI_eq (b := 4) (by omega) (by decide)).mp z))))) hbe) (fun Q hQ => c_workFine (by omega) hS q1 (q2.trans hw) (v := 0) (fun Q2 hQ2 => ?_) hQ) (fun w' hS' Q hQ => m_workFine (by omega) hS' h3 ha hw (m_fine (by omega) hS' ha2 h3 ha hb hb2 hc hc2 h10 h5 ob.1 oe.1 h0 (fun z => absurd z hbe) (fun _ => ⟨rfl, hQ⟩)))
      by_cases h34 : hh = 3 ∨ hh = 4
      · exact c_doFineD (by omega) hS q1 (q4.trans hb) hb2 (q5.trans hc) hc2 (e3.mpr h34) (by rw [ee]; exact h0 h34) hsum (fun z => absurd z hbe) (fun _ => hQ2)
      · exact c_doFineN (by omega) hS q1 (q4.trans hb) hb2 (q5.trans hc) hc2 (fun z => h34 (e3.mp z)) hsum (fun z => absurd z hbe) (fun _ => hQ2)
  by_cases h34 : (hh = 3 ∨ hh = 4) ∧ FP.dcmp (mD σ 11 e) FP.dconst0 = some .eq
  · exact WOK_fail (kd := 7) (by decide) (by decide) (fun Q hQ => c_workFine (by omega) hS q1 (q2.trans hw) (v := 7) (fun Q2 hQ2 => c_doFineZ (by omega) hS q1 (q4.trans hb) hb2 (q5.trans hc) hc2 (e3.mpr h34.1) (by rw [ee]; exact h34.2) hQ2) hQ) (fun w' hS' Q hQ => m_workFine (by omega) hS' h3 ha hw (m_fineZ (by omega) hS' ha2 h3 ha hb hb2 hc hc2 h10 h5 ob.1 oe.1 h34.1 h34.2 ⟨rfl, hQ⟩))
  · exact main (fun z1 z2 => h34 ⟨z1, z2⟩)
theorem wk_rough (h : WX g P d d2 r i c nf w σ) (hw : mA σ 0 (40 * r + i) = 21) {hh b e : Nat} (ha2 : hh < 14) (hb2 : b < 8) (hc2 : e < 8) (ha : mA σ 1 (40 * r + i) = nI hh) (hb : mA σ 2 (40 * r + i) = nI b) (hc : mA σ 3 (40 * r + i) = nI e) : WOK g P d d2 w σ r i (c + 1) nf := by
  have hR := h.drl
  obtain ⟨h1, h2, h3, h4, h5, hS, h7, h8, h9, h10, q1, q2, q3, q4, q5⟩ := h
  obtain ⟨eb, ob⟩ := h7 b hb2
  obtain ⟨ee, oe⟩ := h7 e hc2
  obtain ⟨fb, db⟩ := z_d2f ob
  obtain ⟨fe, de⟩ := z_d2f oe
  have e3 : gI w 449 (pQ P r i) = 3 ∨ gI w 449 (pQ P r i) = 4 ↔ hh = 3 ∨ hh = 4 := by
    rw [q3, ha]
    exact or_congr (nI_eq (b := 3) (by omega) (by decide)) (nI_eq (b := 4) (by omega) (by decide))
  have main : (hh = 3 ∨ hh = 4 → ¬ FP.fcmp (FP.d2f (mD σ 11 e)) FP.fconst0 = some .eq) → WOK g P d d2 w σ r i (c + 1) nf := by
    intro h0
    have hsum : RSum g (d - 1 - 1) w (gI w 449 (pQ P r i)) (FP.d2f (gD w (eB g + 67) b)) (FP.d2f (gD w (eB g + 67) e)) (fRough (nI hh) (FP.d2f (mD σ 11 b)) (FP.d2f (mD σ 11 e))) := by
      rw [q3, ha, eb, ee]
      exact c_rough (by omega) fb fe db de ha2 h0
    by_cases hbe : fBeyond (fRough (nI hh) (FP.d2f (mD σ 11 b)) (FP.d2f (mD σ 11 e)))
    · refine WOK_fail (kd := 8) (by decide) (by decide) (fun Q hQ => c_workRough (by omega) hS q1 (q2.trans hw) (v := 8) (fun Q2 hQ2 => ?_) hQ) (fun w' hS' Q hQ => m_workRough (by omega) hS' h3 ha hw (m_rough (by omega) hS' ha2 h3 ha hb hb2 hc hc2 h10 h5 ob.1 oe.1 fb fe h0 (fun _ => ⟨rfl, hQ⟩) (fun z => absurd hbe z)))
      by_cases h34 : hh = 3 ∨ hh = 4
      · exact c_doRoughD (by omega) hS q1 (q4.trans hb) hb2 (q5.trans hc) hc2 (by rw [eb]; exact ob.1) (by rw [ee]; exact oe.1) (e3.mpr h34) (by rw [ee]; exact h0 h34) hsum (fun _ => hQ2) (fun z => absurd hbe z)
      · exact c_doRoughN (by omega) hS q1 (q4.trans hb) hb2 (q5.trans hc) hc2 (by rw [eb]; exact ob.1) (by rw [ee]; exact oe.1) (fun z => h34 (e3.mp z)) hsum (fun _ => hQ2) (fun z => absurd hbe z)
    · refine WOK_dial hR (b := b) (v := (fRough (nI hh) (FP.d2f (mD σ 11 b)) (FP.d2f (mD σ 11 e)))) (dOK_nb (nn_rough fb fe ha2 h0) hbe) (fun Q hQ => c_workRough (by omega) hS q1 (q2.trans hw) (v := 0) (fun Q2 hQ2 => ?_) hQ) (fun w' hS' Q hQ => m_workRough (by omega) hS' h3 ha hw (m_rough (by omega) hS' ha2 h3 ha hb hb2 hc hc2 h10 h5 ob.1 oe.1 fb fe h0 (fun z => absurd z hbe) (fun _ => ⟨rfl, hQ⟩)))
      by_cases h34 : hh = 3 ∨ hh = 4
      · exact c_doRoughD (by omega) hS q1 (q4.trans hb) hb2 (q5.trans hc) hc2 (by rw [eb]; exact ob.1) (by rw [ee]; exact oe.1) (e3.mpr h34) (by rw [ee]; exact h0 h34) hsum (fun z => absurd z hbe) (fun _ => hQ2)
      · exact c_doRoughN (by omega) hS q1 (q4.trans hb) hb2 (q5.trans hc) hc2 (by rw [eb]; exact ob.1) (by rw [ee]; exact oe.1) (fun z => h34 (e3.mp z)) hsum (fun z => absurd z hbe) (fun _ => hQ2)
  by_cases h34 : (hh = 3 ∨ hh = 4) ∧ FP.fcmp (FP.d2f (mD σ 11 e)) FP.fconst0 = some .eq
  · exact WOK_fail (kd := 7) (by decide) (by decide) (fun Q hQ => c_workRough (by omega) hS q1 (q2.trans hw) (v := 7) (fun Q2 hQ2 => c_doRoughZ (by omega) hS q1 (q4.trans hb) hb2 (q5.trans hc) hc2 (by rw [eb]; exact ob.1) (by rw [ee]; exact oe.1) (e3.mpr h34.1) (by rw [ee]; exact h34.2) hQ2) hQ) (fun w' hS' Q hQ => m_workRough (by omega) hS' h3 ha hw (m_roughZ (by omega) hS' ha2 h3 ha hb hb2 hc hc2 h10 h5 ob.1 oe.1 fb fe h34.1 h34.2 ⟨rfl, hQ⟩))
  · exact main (fun z1 z2 => h34 ⟨z1, z2⟩)
theorem wk_whole (h : WX g P d d2 r i c nf w σ) (hw : mA σ 0 (40 * r + i) = 22) {hh b e : Nat} (ha2 : hh < 8) (hb2 : b < 8) (hc2 : e < 8) (ha : mA σ 1 (40 * r + i) = nI hh) (hb : mA σ 2 (40 * r + i) = nI b) (hc : mA σ 3 (40 * r + i) = nI e) : WOK g P d d2 w σ r i (c + 1) nf := by
  have hR := h.drl
  obtain ⟨h1, h2, h3, h4, h5, hS, h7, h8, h9, h10, q1, q2, q3, q4, q5⟩ := h
  obtain ⟨eb, ob⟩ := h7 b hb2
  obtain ⟨ee, oe⟩ := h7 e hc2
  have e3 : gI w 449 (pQ P r i) = 3 ∨ gI w 449 (pQ P r i) = 4 ↔ hh = 3 ∨ hh = 4 := by
    rw [q3, ha]
    exact or_congr (nI_eq (b := 3) (by omega) (by decide)) (nI_eq (b := 4) (by omega) (by decide))
  have main : (hh = 3 ∨ hh = 4 → ¬ FP.d2i (mD σ 11 e) = 0) → WOK g P d d2 w σ r i (c + 1) nf := by
    intro h0
    have hsum : ∀ Q1 : Option Value → GW → Prop, Q1 (some (.int (sWhole (nI hh) (FP.d2i (mD σ 11 b)) (FP.d2i (mD σ 11 e))))) w → gM g (d - 1 - 1) mX8_whole [.int (gI w 449 (pQ P r i)), .int (FP.d2i (gD w (eB g + 67) b)), .int (FP.d2i (gD w (eB g + 67) e))] w Q1 := fun Q1 hQ1 => by
      rw [q3, ha, eb, ee]
      exact c_whole (by omega) hQ1
    have hbe : ¬ fBeyond (FP.i2d (sWhole (nI hh) (FP.d2i (mD σ 11 b)) (FP.d2i (mD σ 11 e)))) := (dOK_i2d _).2
    refine WOK_dial hR (b := b) (v := (FP.i2d (sWhole (nI hh) (FP.d2i (mD σ 11 b)) (FP.d2i (mD σ 11 e))))) (dOK_i2d _) (fun Q hQ => c_workWhole (by omega) hS q1 (q2.trans hw) (v := 0) (fun Q2 hQ2 => ?_) hQ) (fun w' hS' Q hQ => m_workWhole (by omega) hS' h3 ha hw (m_whole (by omega) hS' ha2 h3 ha hb hb2 hc hc2 h10 h5 h0 ⟨rfl, hQ⟩))
    by_cases h34 : hh = 3 ∨ hh = 4
    · exact c_doWholeD (by omega) hS q1 (q4.trans hb) hb2 (q5.trans hc) hc2 (e3.mpr h34) (by rw [ee]; exact h0 h34) hsum (fun z => absurd z hbe) (fun _ => hQ2)
    · exact c_doWholeN (by omega) hS q1 (q4.trans hb) hb2 (q5.trans hc) hc2 (fun z => h34 (e3.mp z)) hsum (fun z => absurd z hbe) (fun _ => hQ2)
  by_cases h34 : (hh = 3 ∨ hh = 4) ∧ FP.d2i (mD σ 11 e) = 0
  · exact WOK_fail (kd := 7) (by decide) (by decide) (fun Q hQ => c_workWhole (by omega) hS q1 (q2.trans hw) (v := 7) (fun Q2 hQ2 => c_doWholeZ (by omega) hS q1 (q4.trans hb) hb2 (q5.trans hc) hc2 (e3.mpr h34.1) (by rw [ee]; exact h34.2) hQ2) hQ) (fun w' hS' Q hQ => m_workWhole (by omega) hS' h3 ha hw (m_wholeZ (by omega) hS' ha2 h3 ha hb hb2 hc hc2 h10 h5 h34.1 h34.2 ⟨rfl, hQ⟩))
  · exact main (fun z1 z2 => h34 ⟨z1, z2⟩)
theorem wk_wide (h : WX g P d d2 r i c nf w σ) (hw : mA σ 0 (40 * r + i) = 23) {hh b e : Nat} (ha2 : hh < 8) (hb2 : b < 8) (hc2 : e < 8) (ha : mA σ 1 (40 * r + i) = nI hh) (hb : mA σ 2 (40 * r + i) = nI b) (hc : mA σ 3 (40 * r + i) = nI e) : WOK g P d d2 w σ r i (c + 1) nf := by
  have hR := h.drl
  obtain ⟨h1, h2, h3, h4, h5, hS, h7, h8, h9, h10, q1, q2, q3, q4, q5⟩ := h
  obtain ⟨eb, ob⟩ := h7 b hb2
  obtain ⟨ee, oe⟩ := h7 e hc2
  have e3 : gI w 449 (pQ P r i) = 3 ∨ gI w 449 (pQ P r i) = 4 ↔ hh = 3 ∨ hh = 4 := by
    rw [q3, ha]
    exact or_congr (nI_eq (b := 3) (by omega) (by decide)) (nI_eq (b := 4) (by omega) (by decide))
  have main : (hh = 3 ∨ hh = 4 → ¬ FP.d2l (mD σ 11 e) = 0) → WOK g P d d2 w σ r i (c + 1) nf := by
    intro h0
    have hsum : ∀ Q1 : Option Value → GW → Prop, Q1 (some (.long (sWide (nI hh) (FP.d2l (mD σ 11 b)) (FP.d2l (mD σ 11 e))))) w → gM g (d - 1 - 1) mX8_wide [.int (gI w 449 (pQ P r i)), .long (FP.d2l (gD w (eB g + 67) b)), .long (FP.d2l (gD w (eB g + 67) e))] w Q1 := fun Q1 hQ1 => by
      rw [q3, ha, eb, ee]
      exact c_wide hQ1
    by_cases hbe : fBeyond (FP.l2d (sWide (nI hh) (FP.d2l (mD σ 11 b)) (FP.d2l (mD σ 11 e))))
    · refine WOK_fail (kd := 8) (by decide) (by decide) (fun Q hQ => c_workWide (by omega) hS q1 (q2.trans hw) (v := 8) (fun Q2 hQ2 => ?_) hQ) (fun w' hS' Q hQ => m_workWide (by omega) hS' h3 ha hw (m_wide (by omega) hS' ha2 h3 ha hb hb2 hc hc2 h10 h5 h0 (fun _ => ⟨rfl, hQ⟩) (fun z => absurd hbe z)))
      by_cases h34 : hh = 3 ∨ hh = 4
      · exact c_doWideD (by omega) hS q1 (q4.trans hb) hb2 (q5.trans hc) hc2 (e3.mpr h34) (by rw [ee]; exact h0 h34) hsum (fun _ => hQ2) (fun z => absurd hbe z)
      · exact c_doWideN (by omega) hS q1 (q4.trans hb) hb2 (q5.trans hc) hc2 (fun z => h34 (e3.mp z)) hsum (fun _ => hQ2) (fun z => absurd hbe z)
    · refine WOK_dial hR (b := b) (v := (FP.l2d (sWide (nI hh) (FP.d2l (mD σ 11 b)) (FP.d2l (mD σ 11 e))))) (dOK_nb (DF_l2d _).nn hbe) (fun Q hQ => c_workWide (by omega) hS q1 (q2.trans hw) (v := 0) (fun Q2 hQ2 => ?_) hQ) (fun w' hS' Q hQ => m_workWide (by omega) hS' h3 ha hw (m_wide (by omega) hS' ha2 h3 ha hb hb2 hc hc2 h10 h5 h0 (fun z => absurd z hbe) (fun _ => ⟨rfl, hQ⟩)))
      by_cases h34 : hh = 3 ∨ hh = 4
      · exact c_doWideD (by omega) hS q1 (q4.trans hb) hb2 (q5.trans hc) hc2 (e3.mpr h34) (by rw [ee]; exact h0 h34) hsum (fun z => absurd z hbe) (fun _ => hQ2)
      · exact c_doWideN (by omega) hS q1 (q4.trans hb) hb2 (q5.trans hc) hc2 (fun z => h34 (e3.mp z)) hsum (fun z => absurd z hbe) (fun _ => hQ2)
  by_cases h34 : (hh = 3 ∨ hh = 4) ∧ FP.d2l (mD σ 11 e) = 0
  · exact WOK_fail (kd := 7) (by decide) (by decide) (fun Q hQ => c_workWide (by omega) hS q1 (q2.trans hw) (v := 7) (fun Q2 hQ2 => c_doWideZ (by omega) hS q1 (q4.trans hb) hb2 (q5.trans hc) hc2 (e3.mpr h34.1) (by rw [ee]; exact h34.2) hQ2) hQ) (fun w' hS' Q hQ => m_workWide (by omega) hS' h3 ha hw (m_wideZ (by omega) hS' ha2 h3 ha hb hb2 hc hc2 h10 h5 h34.1 h34.2 ⟨rfl, hQ⟩))
  · exact main (fun z1 z2 => h34 ⟨z1, z2⟩)
end WORK2
theorem WorkAll_ok (g : GE) (P : PG) : WorkAll g P := by
  intro d d2 r s i c nf kk w σ hd hd2 hr hc hn hB hL hP hi h30 hk1 hk2 hw
  obtain ⟨q1, q2, q3, q4, q5, q6, q7⟩ := stepQ hP hi
  have hs := hP.1
  have hX : WX g P d d2 r i c nf w σ := ⟨hd, hd2, by omega, hc, hn, hB.1, hB.2.2.1.1, hB.2.2.1.2.1, hL, hB.2.2.2.1.2.2.2.2.2, q1, q2, q3, q4, q5⟩
  obtain ⟨x1, x2, x3, x4, x5, x6, x7, x8, x9, x10, -⟩ := q7
  rcases (show kk = 13 ∨ kk = 14 ∨ kk = 15 ∨ kk = 16 ∨ kk = 17 ∨ kk = 18 ∨ kk = 19 ∨ kk = 20 ∨ kk = 21 ∨ kk = 22 ∨ kk = 23 ∨ kk = 24 by omega) with rfl | rfl | rfl | rfl | rfl | rfl | rfl | rfl | rfl | rfl | rfl | rfl
  · obtain ⟨a, b, y1, y2, y3, y4⟩ := x4 (Or.inl hw)
    exact wk_make hX hw y1 y2 y3 y4
  · obtain ⟨a, y1, y2⟩ := x5 hw
    exact wk_drop hX hw y1 y2
  · obtain ⟨a, b, y1, y2, y3, y4⟩ := x4 (Or.inr hw)
    exact wk_count hX hw y1 y2 y3 y4
  · obtain ⟨a, b, e, y1, y2, y3, y4, y5, y6⟩ := x6 (Or.inl hw)
    exact wk_get hX hw y1 y2 y3 y4 y5 y6
  · obtain ⟨a, b, e, y1, y2, y3, y4, y5, y6⟩ := x6 (Or.inr hw)
    exact wk_put hX hw y1 y2 y3 y4 y5 y6
  · obtain ⟨a, b, y0, y1, y2, y3, y4⟩ := x7 hw
    exact wk_fit hX hw y0 y1 y2 y3 y4
  · obtain ⟨a, y1, y2⟩ := x8 (Or.inl hw)
    exact wk_set hX hw y1 y2
  · obtain ⟨a, b, e, y1, y2, y3, y4, y5, y6⟩ := x9 (Or.inl hw)
    exact wk_fine hX hw y1 y2 y3 y4 y5 y6
  · obtain ⟨a, b, e, y1, y2, y3, y4, y5, y6⟩ := x9 (Or.inr hw)
    exact wk_rough hX hw y1 y2 y3 y4 y5 y6
  · obtain ⟨a, b, e, y1, y2, y3, y4, y5, y6⟩ := x10 (Or.inl hw)
    exact wk_whole hX hw y1 y2 y3 y4 y5 y6
  · obtain ⟨a, b, e, y1, y2, y3, y4, y5, y6⟩ := x10 (Or.inr hw)
    exact wk_wide hX hw y1 y2 y3 y4 y5 y6
  · obtain ⟨a, y1, y2⟩ := x8 (Or.inr hw)
    exact wk_note hX hw y1 y2
