/-! ===== the LOG ===== -/
def RelLn (g : GE) (w : GW) (σ : MW) (n : Nat) : Prop := gI w 257 (eB g + 68) = nI n ∧ mI σ 38 = nI n ∧ ∀ i, i < n → gD w (eB g + 69) i = mD σ 26 i ∧ DF (mD σ 26 i)
def Basn (g : GE) (P : PG) (w : GW) (σ : MW) (c n nf : Nat) : Prop := SK g w ∧ PR g P w (mA σ) ∧ (RelD g w σ ∧ RelR g w σ ∧ RelLn g w σ n) ∧ CNT g w σ c nf ∧ (∀ j, j < 12 → mA σ 27 j = aTab j) ∧ eOL g 4 = 12 ∧ (∀ j, j < 12 → eOF g 4 j = aTab j)
theorem Basn.base {g : GE} {P : PG} {w : GW} {σ : MW} {c n nf : Nat} (h : Basn g P w σ c n nf) (hn : n ≤ 4 * c) : Base g P w σ c nf := ⟨h.1, h.2.1, ⟨h.2.2.1.1, h.2.2.1.2.1, n, hn, h.2.2.1.2.2⟩, h.2.2.2⟩
theorem Base.basn {g : GE} {P : PG} {w : GW} {σ : MW} {c nf : Nat} (h : Base g P w σ c nf) : ∃ n, n ≤ 4 * c ∧ Basn g P w σ c n nf := by
  obtain ⟨h1, h2, ⟨h3, h4, n, h5, h6⟩, h7⟩ := h
  exact ⟨n, h5, h1, h2, ⟨h3, h4, h6⟩, h7⟩
def appC (g : GE) (w : GW) (n : Nat) (x : UInt64) : GW := setI (setD w (eB g + 69) n x) 257 (eB g + 68) (nI (n + 1))
def appM (σ : MW) (n : Nat) (x : UInt64) : MW := sI (sD σ 26 n x) 38 (nI (n + 1))
theorem CFr_app {g : GE} {w : GW} {n : Nat} {x : UInt64} : CFr g w (appC g w n x) := (CFr_setD _ _ _ (Or.inr (Or.inl rfl))).thn (CFr_setI 257 _ _ (by omega))
theorem MFr_app {σ τ : MW} {n b nf : Nat} {x : UInt64} (h : MFr σ τ b nf) : MFr σ (appM τ n x) b nf := (h.D 26 n x).I 38 _ (by omega)
theorem gI_app {g : GE} {w : GW} {n c a : Nat} {x : UInt64} (hc : c ≠ 257) : gI (appC g w n x) c a = gI w c a := by
  unfold appC
  rw [gI_setI, up2_ne _ _ (by omega), gI_setD]
theorem gD_app {g : GE} {w : GW} {n a i : Nat} {x : UInt64} (ha : ¬ (a = eB g + 69 ∧ i = n)) : gD (appC g w n x) a i = gD w a i := by
  unfold appC
  rw [gD_setI, gD_setD, up2_ne _ _ ha]
theorem gD_app_at {g : GE} {w : GW} {n : Nat} {x : UInt64} : gD (appC g w n x) (eB g + 69) n = x := by
  unfold appC
  rw [gD_setI, gD_setD, up2_at]
theorem mD_app {σ : MW} {n j i : Nat} {x : UInt64} (ha : ¬ (j = 26 ∧ i = n)) : mD (appM σ n x) j i = mD σ j i := by
  unfold appM
  rw [mD_sI, mD_sD, if_neg ha]
theorem mD_app_at {σ : MW} {n : Nat} {x : UInt64} : mD (appM σ n x) 26 n = x := by
  unfold appM
  rw [mD_sI, mD_sD, if_pos ⟨rfl, rfl⟩]
theorem mI_app {σ : MW} {n f : Nat} {x : UInt64} (hf : f ≠ 38) : mI (appM σ n x) f = mI σ f := by
  unfold appM
  rw [mI_sI, if_neg hf, mI_sD]
theorem mA_app {σ : MW} {n : Nat} {x : UInt64} : mA (appM σ n x) = mA σ := rfl
theorem Basn_app {g : GE} {P : PG} {w : GW} {σ : MW} {c n nf : Nat} {x : UInt64} (h : Basn g P w σ c n nf) (hx : DF x) : Basn g P (appC g w n x) (appM σ n x) c (n + 1) nf := by
  obtain ⟨h1, h2, ⟨h3, h4, h5, h6, h7⟩, ⟨c1, c2, c3, c4, c5, c6⟩, h8, h9⟩ := h
  refine ⟨CFr_app.sk h1, PR_same h1 CFr_app (fun _ _ _ => rfl) h2, ⟨fun j hj => ?_, fun r hr => ?_, ?_, ?_, fun i hi => ?_⟩, ⟨c1, ?_, ?_, ?_, ?_, ?_⟩, h8, h9⟩
  · rw [gD_app (by omega), mD_app (by omega)]; exact h3 j hj
  · unfold RelR1
    rw [gI_app (by omega), mA_app]
    rcases h4 r hr with q | ⟨m, q1, q2, q3, q4, q5⟩
    · exact Or.inl q
    · refine Or.inr ⟨m, q1, q2, q3, q4, fun i hi => ?_⟩
      rw [gD_app (by unfold aRd; omega), mD_app (by omega)]
      exact q5 i hi
  · unfold appC; rw [gI_setI, up2_at]
  · unfold appM; rw [mI_sI, if_pos rfl]
  · by_cases e : i = n
    · subst e; rw [gD_app_at, mD_app_at]; exact ⟨rfl, hx⟩
    · rw [gD_app (by omega), mD_app (by omega)]; exact h7 i (by omega)
  · rw [gI_app (by omega)]; exact c2
  · rw [mI_app (by omega)]; exact c3
  · rw [gI_app (by omega), mI_app (by omega)]; exact c4
  · rw [gI_app (by omega), mI_app (by omega)]; exact c5
  · rw [mI_app (by omega)]; exact c6
section STEP2
variable {g : GE} {P : PG} {d d2 r s i o tr cl c nf h t : Nat} {l cc : Bool} {w : GW} {σ : MW} {cau : Option Nat}
theorem sim_tell (hd : 5 ≤ d) (hd2 : 12 ≤ d2) (hr : r < 4) (hB : Base g P w σ c nf) (hc : c < 200) (hn : nf < 600) (hP : PR1 g P w (mA σ) r s) (hi : i < s) (hA : At g w σ r i o tr cl) (hCa : Cau g w σ o nf cau true) (ho : o + h ≤ 50) (hw : mA σ 0 (40 * r + i) = 10) (ht : t = i + 1) : gMI g d mX0_doStep [.ref (eB g + 1), .ref (aRt g r), .ref (pQ P r i), va_rf cau, .int (nI cl)] w (SRes g P d2 w σ r t l o cl c nf h) := by
  obtain ⟨q1, q2, q3, q4, q5, q6, q7⟩ := stepQ hP hi
  have hG := GoX_of hr hP hi hA ho
  obtain ⟨cf, φ, tc, rfl, hF, hT, h24⟩ := hCa rfl
  obtain ⟨n, hn4, hBn⟩ := hB.basn
  have hB1 := Base_count hB hc
  have hBn1 : Basn g P (setI w 5 (eB g + 1) (nI (c + 1))) (sI σ 34 (nI (c + 1))) (c + 1) n nf := by
    obtain ⟨b1, b2, ⟨b3, b4, b5⟩, b6⟩ := hB1
    obtain ⟨n', e1, e2⟩ := b5
    refine ⟨b1, b2, ⟨b3, b4, ?_⟩, b6⟩
    have := hBn.2.2.1.2.2
    refine ⟨by rw [gI_setI, up2_ne _ _ (by omega)]; exact this.1, by rw [mI_sI, if_neg (by decide)]; exact this.2.1, this.2.2⟩
  have hF1 : FR g (setI w 5 (eB g + 1) (nI (c + 1))) (mA (sI σ 34 (nI (c + 1)))) nf cf φ := FR_same (Nat.le_of_lt hn) (Nat.le_refl nf) (fun _ _ _ _ _ => rfl) (CFr_setI 5 _ _ (by omega)) hF
  obtain ⟨hob, kd, m, h1, h2, h3, h4, h5, h6, h7, h8, h9, hch, h10, h11⟩ := id hF1
  have e448 : gI (setI w 5 (eB g + 1) (nI (c + 1))) 448 (pQ P r i) = 10 := by rw [gI_setI, up2_ne _ _ (by omega), q2]; exact hw
  refine c_stepTell (by omega) hB.1 q1 hB.2.2.2.1.2.1 hc (by rw [q2]; exact hw) (f := cf) (v9 := 0) (fun Q k => c_useTell (n := n) (by omega) hB1.1 q1 hob e448 hBn1.2.2.1.2.2.1 (by omega) k) ?_
  have hBf := Basn_app (Basn_app (Basn_app (Basn_app hBn1 (DF_i2d (mA σ 16 φ))) (DF_i2d (mA σ 17 φ))) (DF_i2d (mWt (mA σ) φ 0 m))) (DF_i2d (mA σ 20 φ))
  have eW : tellW g (setI w 5 (eB g + 1) (nI (c + 1))) n cf = appC g (appC g (appC g (appC g (setI w 5 (eB g + 1) (nI (c + 1))) n (FP.i2d (mA σ 16 φ))) (n + 1) (FP.i2d (mA σ 17 φ))) (n + 1 + 1) (FP.i2d (mWt (mA σ) φ 0 m))) (n + 1 + 1 + 1) (FP.i2d (mA σ 20 φ)) := by
    unfold tellW
    rw [h4, h6, h11, h8]
    unfold appC
    have e1 : mA σ 16 φ = nI kd := h5
    have e2 : mA σ 20 φ = nI m := h9
    rw [e1, e2]
    rfl
  rw [eW]
  have hMf := MFr_app (n := n + 1 + 1 + 1) (x := FP.i2d (mA σ 20 φ)) (MFr_app (n := n + 1 + 1) (x := FP.i2d (mWt (mA σ) φ 0 m)) (MFr_app (n := n + 1) (x := FP.i2d (mA σ 17 φ)) (MFr_app (n := n) (x := FP.i2d (mA σ 16 φ)) ((MFr_refl σ (o + 1) nf).I 34 (nI (c + 1)) (by omega)))))
  refine Res_plain (b := 0) (σ1 := sI (appM (appM (appM (appM (sI σ 34 (nI (c + 1))) n (FP.i2d (mA σ 16 φ))) (n + 1) (FP.i2d (mA σ 17 φ))) (n + 1 + 1) (FP.i2d (mWt (mA σ) φ 0 m))) (n + 1 + 1 + 1) (FP.i2d (mA σ 20 φ))) 30 (nI (40 * r + i + 1))) (MS_order hd2 hG hA.2.2.2.1 (nPrt hw (by decide)) (by rw [hw]; decide) hB.2.2.2.1.2.2.1 hc (fun w' hS' Q k => m_ordTell (by omega) hS' hG.2.2.2.2.2.2.1 hw (m_tell (t := tc) (N := nf) (by omega) hS' (by rw [mI_sI, if_neg (by decide)]; exact hA.1) (by omega) hT h24 (Nat.le_of_lt hn) hch (by omega) h9 hBn1.2.2.1.2.2.2.1 (by omega) (by rw [mI_sI, if_neg (by decide)]; exact hA.2.2.2.2.1) ⟨rfl, rfl, k⟩))) (Base_I 30 _ (hBf.base (by omega)) (by omega)) ((CFr_setI 5 _ _ (by omega)).thn (CFr_app.thn (CFr_app.thn (CFr_app.thn CFr_app)))) (hMf.I 30 _ (by omega)) rfl hc ?_ ?_ (Or.inl ⟨rfl, ?_, ?_, ?_⟩)
  · rw [mI_sI, if_neg (by decide), mI_app (by omega), mI_app (by omega), mI_app (by omega), mI_app (by omega), mI_sI, if_neg (by decide)]; exact hA.1
  · rw [mI_sI, if_neg (by decide), mI_app (by omega), mI_app (by omega), mI_app (by omega), mI_app (by omega), mI_sI, if_neg (by decide)]; exact hA.2.2.1
  · rw [mI_sI, if_neg (by decide), mI_app (by omega), mI_app (by omega), mI_app (by omega), mI_app (by omega), mI_sI, if_neg (by decide)]; exact hA.2.2.2.1
  · rw [mI_sI, if_pos rfl, ht]; rfl
  · exact hA.2.2.2.2.2
theorem sim_callTired (hd : 5 ≤ d) (hd2 : 12 ≤ d2) (hr : r < 4) (hB : Base g P w σ c nf) (hc : c < 200) (hn : nf < 600) (hP : PR1 g P w (mA σ) r s) (hi : i < s) (hA : At g w σ r i o tr cl) (ho : o + h ≤ 50) (hw : mA σ 0 (40 * r + i) = 12) {a : Nat} (ha : mA σ 1 (40 * r + i) = nI a) (ha4 : a < 4) (hcl : cl ≤ 4) (hT : ¬ mA σ 7 a = 0 ∨ cl = 4) : gMI g d mX0_doStep [.ref (eB g + 1), .ref (aRt g r), .ref (pQ P r i), va_rf cau, .int (nI cl)] w (SRes g P d2 w σ r t l o cl c nf h) := by
  obtain ⟨q1, q2, q3, q4, q5, q6, q7⟩ := stepQ hP hi
  have hG := GoX_of hr hP hi hA ho
  have hB1 := Base_count hB hc
  obtain ⟨s', hP', ⟨o', ho6, ho7⟩, -⟩ := hB.2.1 a ha4
  have h324 : gI w 324 (aRt g a) = mA σ 7 a := hP'.2.2.2.1
  have hpos : ¬ mA σ 7 a = 0 → 0 < mA σ 7 a := by
    intro q
    rw [ho7] at q ⊢
    rcases Nat.eq_zero_or_pos o' with e | e
    · exact absurd (by rw [e]; rfl) q
    · exact nI_lt (a := 0) e (by omega)
  have hT1 : 0 < mA σ 7 a ∨ cl = 4 := hT.imp hpos id
  have e453 : gI (setI w 5 (eB g + 1) (nI (c + 1))) 453 (pQ P r i) = nI (40 * r + i) := by rw [gI_setI, up2_ne _ _ (by omega), q6]
  have h30 : mI (sI σ 34 (nI (c + 1))) 30 = nI (40 * r + i) := by rw [mI_sI, if_neg (by decide)]; exact hA.2.2.2.2.1
  refine c_stepCall (by omega) hB.1 q1 hB.2.2.2.1.2.1 hc (by rw [q2]; exact hw) (gMI_ans (v := 3) (fun Q k => c_callTired0 (a := 0) (r := a) (by omega) hB1.1 q1 (by rw [gI_setI, up2_ne _ _ (by omega), q3]; exact ha) ha4 (by rw [gI_setI, up2_ne _ _ (by omega), h324]; exact hT1) hcl k) ?_)
  rw [e453]
  exact SRes_throw (kd := 10) (be := -1) (em := 0) (MS_order hd2 hG hA.2.2.2.1 (nPrt hw (by decide)) (by rw [hw]; decide) hB.2.2.2.1.2.2.1 hc (fun w' hS' Q k => m_ordCall (by omega) hS' hG.2.2.2.2.2.2.1 hw (m_callTired (r := a) (by omega) hS' hG.2.2.2.2.2.2.1 ha ha4 (hT1.imp id (fun q => by rw [mI_sI, if_neg (by decide), hA.2.2.1, q])) (by rw [mI_sI, if_neg (by decide)]; exact hB.2.2.2.1.2.2.2.2.2) hn ⟨rfl, rfl, by rw [show (10 : Int32) = nI 10 from rfl, mFail_eq h30]; exact k⟩))) hB hc hA (FR_new hB1.1 (by omega) (by omega))
theorem dcmp_nn {x y : UInt64} (hx : DF x) (hy : DF y) : FP.dcmp x y ≠ none := by
  intro q
  rcases (FP.Core.dcmp_none _ _).mp q with e | e
  · exact hx.nn e
  · exact hy.nn e
theorem sim_ifOff (hd : 4 ≤ d) (hd2 : 12 ≤ d2) (hr : r < 4) (hB : Base g P w σ c nf) (hc : c < 200) (hP : PR1 g P w (mA σ) r s) (hi : i < s) (hA : At g w σ r i o tr cl) (ho : o + h ≤ 50) (hw : mA σ 0 (40 * r + i) = 11) {a b e : Nat} (ha : mA σ 1 (40 * r + i) = nI a) (ha8 : a < 8) (hb : mA σ 3 (40 * r + i) = nI b) (hb8 : b < 8) (hso : fSo (mA σ 2 (40 * r + i)) (mD σ 11 a) (mD σ 11 b) = 0) (he : mA σ 4 (40 * r + i) = nI (40 * r + e)) (ht : t = e + 1) : gMI g d mX0_doStep [.ref (eB g + 1), .ref (aRt g r), .ref (pQ P r i), va_rf cau, .int (nI cl)] w (SRes g P d2 w σ r t l o cl c nf h) := by
  obtain ⟨q1, q2, q3, q4, q5, q6, q7⟩ := stepQ hP hi
  have hG := GoX_of hr hP hi hA ho
  obtain ⟨hDa, hDb⟩ := And.intro (hB.2.2.1.1 a ha8) (hB.2.2.1.1 b hb8)
  have hnn := dcmp_nn hDa.2.1 hDb.2.1
  refine c_stepIfOff (a := a) (c9 := b) hd hB.1 q1 hB.2.2.2.1.2.1 hc (by rw [q2]; exact hw) (by rw [q3]; exact ha) ha8 (by rw [q5]; exact hb) hb8 (by rw [hDa.1, hDb.1]; exact hnn) (by rw [hDa.1, hDb.1, q4]; exact hso) ?_
  refine Res_plain (b := 0) (σ1 := sI (sI σ 34 (nI (c + 1))) 30 (nI (40 * r + e + 1))) (MS_order hd2 hG hA.2.2.2.1 (nPrt hw (by decide)) (by rw [hw]; decide) hB.2.2.2.1.2.2.1 hc (fun w' hS' Q k => m_ordIfOff (by omega) hS' hG.2.2.2.2.2.2.1 hw ha ha8 hb hb8 hnn hso he ⟨rfl, k⟩)) (Base_I 30 _ (Base_count hB hc) (by omega)) (CFr_setI 5 _ _ (by omega)) (((MFr_refl σ (o + 1) nf).I 34 _ (by omega)).I 30 _ (by omega)) rfl hc ?_ ?_ (Or.inl ⟨rfl, ?_, ?_, ?_⟩)
  · rw [mI_sI, if_neg (by decide), mI_sI, if_neg (by decide)]; exact hA.1
  · rw [mI_sI, if_neg (by decide), mI_sI, if_neg (by decide)]; exact hA.2.2.1
  · rw [mI_sI, if_neg (by decide), mI_sI, if_neg (by decide)]; exact hA.2.2.2.1
  · rw [mI_sI, if_pos rfl, ht]; rfl
  · exact hA.2.2.2.2.2
end STEP2
