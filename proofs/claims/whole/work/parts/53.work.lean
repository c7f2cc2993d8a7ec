theorem m_fine {g : GE} {d : Nat} {w : GW} {σ : MW} {Q : Option Value → GW → Prop} (hd : 6 ≤ d) (hS : SK g w) {p b c n h : Nat} (hh : h < 14) (hp : p < 160) (ha : mA σ 1 p = nI h) (hb : mA σ 2 p = nI b) (hb2 : b < 8) (hc : mA σ 3 p = nI c) (hc2 : c < 8) (hn : mI σ 22 = nI n) (hn2 : n < 600) (hx : DF (mD σ 11 b)) (hy : DF (mD σ 11 c)) (h0 : h = 3 ∨ h = 4 → ¬ FP.dcmp (mD σ 11 c) FP.dconst0 = some .eq) (k1 : fBeyond (fFine (nI h) (mD σ 11 b) (mD σ 11 c)) → Q none (put g (mFail σ n 8) w)) (k2 : ¬ fBeyond (fFine (nI h) (mD σ 11 b) (mD σ 11 c)) → Q none (put g (sD σ 11 b (fFine (nI h) (mD σ 11 b) (mD σ 11 c))) w)) : gM g d mX10_fine [.ref (eB g + 70), .int (nI p)] (put g σ w) Q := by
  rcases (show h = 0 ∨ h = 1 ∨ h = 2 ∨ h = 3 ∨ h = 4 ∨ h = 5 ∨ h = 6 ∨ h = 7 ∨ h = 8 ∨ h = 9 ∨ h = 10 ∨ h = 11 ∨ h = 12 ∨ h = 13 by omega) with rfl | rfl | rfl | rfl | rfl | rfl | rfl | rfl | rfl | rfl | rfl | rfl | rfl | rfl
  · exact m_fine0 (by omega) hS hp ha hb hb2 hc hc2 hn hn2 hx hy k1 k2
  · exact m_fine1 (by omega) hS hp ha hb hb2 hc hc2 hn hn2 hx hy k1 k2
  · exact m_fine2 (by omega) hS hp ha hb hb2 hc hc2 hn hn2 hx hy k1 k2
  · exact m_fine3 (by omega) hS hp ha hb hb2 hc hc2 hn hn2 hx hy (h0 (by omega)) k1 k2
  · exact m_fine4 (by omega) hS hp ha hb hb2 hc hc2 hn hn2 hx hy (h0 (by omega)) k1 k2
  · exact m_fine5 (by omega) hS hp ha hb hb2 hc hc2 hn hn2 hx hy k1 k2
  · exact m_fine6 (by omega) hS hp ha hb hb2 hc hc2 hn hn2 hx hy k1 k2
  · exact m_fine7 (by omega) hS hp ha hb hb2 hc hc2 hn hn2 hx hy k1 k2
  · exact m_fine8 (by omega) hS hp ha hb hb2 hc hc2 hn hn2 hx hy k1 k2
  · exact m_fine9 (by omega) hS hp ha hb hb2 hc hc2 hn hn2 hx hy k1 k2
  · exact m_fine10 (by omega) hS hp ha hb hb2 hc hc2 hn hn2 hx hy k1 k2
  · exact m_fine11 (by omega) hS hp ha hb hb2 hc hc2 hn hn2 hx hy k1 k2
  · exact m_fine12 (by omega) hS hp ha hb hb2 hc hc2 hn hn2 hx hy k1 k2
  · exact m_fine13 (by omega) hS hp ha hb hb2 hc hc2 hn hn2 hx hy k1 k2
theorem m_fineZ {g : GE} {d : Nat} {w : GW} {σ : MW} {Q : Option Value → GW → Prop} (hd : 6 ≤ d) (hS : SK g w) {p b c n h : Nat} (hh : h < 14) (hp : p < 160) (ha : mA σ 1 p = nI h) (hb : mA σ 2 p = nI b) (hb2 : b < 8) (hc : mA σ 3 p = nI c) (hc2 : c < 8) (hn : mI σ 22 = nI n) (hn2 : n < 600) (hx : DF (mD σ 11 b)) (hy : DF (mD σ 11 c)) (h0 : h = 3 ∨ h = 4) (hz : FP.dcmp (mD σ 11 c) FP.dconst0 = some .eq) (k : Q none (put g (mFail σ n 7) w)) : gM g d mX10_fine [.ref (eB g + 70), .int (nI p)] (put g σ w) Q := by
  rcases h0 with rfl | rfl
  · exact m_fine3z (by omega) hS hp ha hb hb2 hc hc2 hn hn2 hx hy hz k
  · exact m_fine4z (by omega) hS hp ha hb hb2 hc hc2 hn hn2 hx hy hz k
theorem m_rough {g : GE} {d : Nat} {w : GW} {σ : MW} {Q : Option Value → GW → Prop} (hd : 6 ≤ d) (hS : SK g w) {p b c n h : Nat} (hh : h < 14) (hp : p < 160) (ha : mA σ 1 p = nI h) (hb : mA σ 2 p = nI b) (hb2 : b < 8) (hc : mA σ 3 p = nI c) (hc2 : c < 8) (hn : mI σ 22 = nI n) (hn2 : n < 600) (hx : DF (mD σ 11 b)) (hy : DF (mD σ 11 c)) (fx : FF (FP.d2f (mD σ 11 b))) (fy : FF (FP.d2f (mD σ 11 c))) (h0 : h = 3 ∨ h = 4 → ¬ FP.fcmp (FP.d2f (mD σ 11 c)) FP.fconst0 = some .eq) (k1 : fBeyond (fRough (nI h) (FP.d2f (mD σ 11 b)) (FP.d2f (mD σ 11 c))) → Q none (put g (mFail σ n 8) w)) (k2 : ¬ fBeyond (fRough (nI h) (FP.d2f (mD σ 11 b)) (FP.d2f (mD σ 11 c))) → Q none (put g (sD σ 11 b (fRough (nI h) (FP.d2f (mD σ 11 b)) (FP.d2f (mD σ 11 c)))) w)) : gM g d mX10_rough [.ref (eB g + 70), .int (nI p)] (put g σ w) Q := by
  rcases (show h = 0 ∨ h = 1 ∨ h = 2 ∨ h = 3 ∨ h = 4 ∨ h = 5 ∨ h = 6 ∨ h = 7 ∨ h = 8 ∨ h = 9 ∨ h = 10 ∨ h = 11 ∨ h = 12 ∨ h = 13 by omega) with rfl | rfl | rfl | rfl | rfl | rfl | rfl | rfl | rfl | rfl | rfl | rfl | rfl | rfl
  · exact m_rough0 (by omega) hS hp ha hb hb2 hc hc2 hn hn2 hx hy fx fy k1 k2
  · exact m_rough1 (by omega) hS hp ha hb hb2 hc hc2 hn hn2 hx hy fx fy k1 k2
  · exact m_rough2 (by omega) hS hp ha hb hb2 hc hc2 hn hn2 hx hy fx fy k1 k2
  · exact m_rough3 (by omega) hS hp ha hb hb2 hc hc2 hn hn2 hx hy fx fy (h0 (by omega)) k1 k2
  · exact m_rough4 (by omega) hS hp ha hb hb2 hc hc2 hn hn2 hx hy fx fy (h0 (by omega)) k1 k2
  · exact m_rough5 (by omega) hS hp ha hb hb2 hc hc2 hn hn2 hx hy fx fy k1 k2
  · exact m_rough6 (by omega) hS hp ha hb hb2 hc hc2 hn hn2 hx hy fx fy k1 k2
  · exact m_rough7 (by omega) hS hp ha hb hb2 hc hc2 hn hn2 hx hy fx fy k1 k2
  · exact m_rough8 (by omega) hS hp ha hb hb2 hc hc2 hn hn2 hx hy fx fy k1 k2
  · exact m_rough9 (by omega) hS hp ha hb hb2 hc hc2 hn hn2 hx hy fx fy k1 k2
  · exact m_rough10 (by omega) hS hp ha hb hb2 hc hc2 hn hn2 hx hy fx fy k1 k2
  · exact m_rough11 (by omega) hS hp ha hb hb2 hc hc2 hn hn2 hx hy fx fy k1 k2
  · exact m_rough12 (by omega) hS hp ha hb hb2 hc hc2 hn hn2 hx hy fx fy k1 k2
  · exact m_rough13 (by omega) hS hp ha hb hb2 hc hc2 hn hn2 hx hy fx fy k1 k2
theorem m_roughZ {g : GE} {d : Nat} {w : GW} {σ : MW} {Q : Option Value → GW → Prop} (hd : 6 ≤ d) (hS : SK g w) {p b c n h : Nat} (hh : h < 14) (hp : p < 160) (ha : mA σ 1 p = nI h) (hb : mA σ 2 p = nI b) (hb2 : b < 8) (hc : mA σ 3 p = nI c) (hc2 : c < 8) (hn : mI σ 22 = nI n) (hn2 : n < 600) (hx : DF (mD σ 11 b)) (hy : DF (mD σ 11 c)) (fx : FF (FP.d2f (mD σ 11 b))) (fy : FF (FP.d2f (mD σ 11 c))) (h0 : h = 3 ∨ h = 4) (hz : FP.fcmp (FP.d2f (mD σ 11 c)) FP.fconst0 = some .eq) (k : Q none (put g (mFail σ n 7) w)) : gM g d mX10_rough [.ref (eB g + 70), .int (nI p)] (put g σ w) Q := by
  rcases h0 with rfl | rfl
  · exact m_rough3z (by omega) hS hp ha hb hb2 hc hc2 hn hn2 hx hy fx fy hz k
  · exact m_rough4z (by omega) hS hp ha hb hb2 hc hc2 hn hn2 hx hy fx fy hz k
theorem m_whole {g : GE} {d : Nat} {w : GW} {σ : MW} {Q : Option Value → GW → Prop} (hd : 6 ≤ d) (hS : SK g w) {p b c n h : Nat} (hh : h < 8) (hp : p < 160) (ha : mA σ 1 p = nI h) (hb : mA σ 2 p = nI b) (hb2 : b < 8) (hc : mA σ 3 p = nI c) (hc2 : c < 8) (hn : mI σ 22 = nI n) (hn2 : n < 600) (h0 : h = 3 ∨ h = 4 → ¬ FP.d2i (mD σ 11 c) = 0) (k : Q none (put g (sD σ 11 b (FP.i2d (sWhole (nI h) (FP.d2i (mD σ 11 b)) (FP.d2i (mD σ 11 c))))) w)) : gM g d mX10_whole [.ref (eB g + 70), .int (nI p)] (put g σ w) Q := by
  rcases (show h = 0 ∨ h = 1 ∨ h = 2 ∨ h = 3 ∨ h = 4 ∨ h = 5 ∨ h = 6 ∨ h = 7 by omega) with rfl | rfl | rfl | rfl | rfl | rfl | rfl | rfl
  · exact m_whole0 hS hp ha hb hb2 hc hc2 hn hn2 k
  · exact m_whole1 hS hp ha hb hb2 hc hc2 hn hn2 k
  · exact m_whole2 hS hp ha hb hb2 hc hc2 hn hn2 k
  · exact m_whole3 hS hp ha hb hb2 hc hc2 hn hn2 (h0 (by omega)) k
  · exact m_whole4 hS hp ha hb hb2 hc hc2 hn hn2 (h0 (by omega)) k
  · exact m_whole5 hS hp ha hb hb2 hc hc2 hn hn2 k
  · exact m_whole6 hS hp ha hb hb2 hc hc2 hn hn2 k
  · exact m_whole7 hS hp ha hb hb2 hc hc2 hn hn2 k
theorem m_wholeZ {g : GE} {d : Nat} {w : GW} {σ : MW} {Q : Option Value → GW → Prop} (hd : 6 ≤ d) (hS : SK g w) {p b c n h : Nat} (hh : h < 8) (hp : p < 160) (ha : mA σ 1 p = nI h) (hb : mA σ 2 p = nI b) (hb2 : b < 8) (hc : mA σ 3 p = nI c) (hc2 : c < 8) (hn : mI σ 22 = nI n) (hn2 : n < 600) (h0 : h = 3 ∨ h = 4) (hz : FP.d2i (mD σ 11 c) = 0) (k : Q none (put g (mFail σ n 7) w)) : gM g d mX10_whole [.ref (eB g + 70), .int (nI p)] (put g σ w) Q := by
  rcases h0 with rfl | rfl
  · exact m_whole3z (by omega) hS hp ha hb hb2 hc hc2 hn hn2 hz k
  · exact m_whole4z (by omega) hS hp ha hb hb2 hc hc2 hn hn2 hz k
theorem m_wide {g : GE} {d : Nat} {w : GW} {σ : MW} {Q : Option Value → GW → Prop} (hd : 6 ≤ d) (hS : SK g w) {p b c n h : Nat} (hh : h < 8) (hp : p < 160) (ha : mA σ 1 p = nI h) (hb : mA σ 2 p = nI b) (hb2 : b < 8) (hc : mA σ 3 p = nI c) (hc2 : c < 8) (hn : mI σ 22 = nI n) (hn2 : n < 600) (h0 : h = 3 ∨ h = 4 → ¬ FP.d2l (mD σ 11 c) = 0) (k1 : fBeyond (FP.l2d (sWide (nI h) (FP.d2l (mD σ 11 b)) (FP.d2l (mD σ 11 c)))) → Q none (put g (mFail σ n 8) w)) (k2 : ¬ fBeyond (FP.l2d (sWide (nI h) (FP.d2l (mD σ 11 b)) (FP.d2l (mD σ 11 c)))) → Q none (put g (sD σ 11 b (FP.l2d (sWide (nI h) (FP.d2l (mD σ 11 b)) (FP.d2l (mD σ 11 c))))) w)) : gM g d mX10_wide [.ref (eB g + 70), .int (nI p)] (put g σ w) Q := by
  rcases (show h = 0 ∨ h = 1 ∨ h = 2 ∨ h = 3 ∨ h = 4 ∨ h = 5 ∨ h = 6 ∨ h = 7 by omega) with rfl | rfl | rfl | rfl | rfl | rfl | rfl | rfl
  · exact m_wide0 (by omega) hS hp ha hb hb2 hc hc2 hn hn2 k1 k2
  · exact m_wide1 (by omega) hS hp ha hb hb2 hc hc2 hn hn2 k1 k2
  · exact m_wide2 (by omega) hS hp ha hb hb2 hc hc2 hn hn2 k1 k2
  · exact m_wide3 (by omega) hS hp ha hb hb2 hc hc2 hn hn2 (h0 (by omega)) k1 k2
  · exact m_wide4 (by omega) hS hp ha hb hb2 hc hc2 hn hn2 (h0 (by omega)) k1 k2
  · exact m_wide5 (by omega) hS hp ha hb hb2 hc hc2 hn hn2 k1 k2
  · exact m_wide6 (by omega) hS hp ha hb hb2 hc hc2 hn hn2 k1 k2
  · exact m_wide7 (by omega) hS hp ha hb hb2 hc hc2 hn hn2 k1 k2
theorem m_wideZ {g : GE} {d : Nat} {w : GW} {σ : MW} {Q : Option Value → GW → Prop} (hd : 6 ≤ d) (hS : SK g w) {p b c n h : Nat} (hh : h < 8) (hp : p < 160) (ha : mA σ 1 p = nI h) (hb : mA σ 2 p = nI b) (hb2 : b < 8) (hc : mA σ 3 p = nI c) (hc2 : c < 8) (hn : mI σ 22 = nI n) (hn2 : n < 600) (h0 : h = 3 ∨ h = 4) (hz : FP.d2l (mD σ 11 c) = 0) (k : Q none (put g (mFail σ n 7) w)) : gM g d mX10_wide [.ref (eB g + 70), .int (nI p)] (put g σ w) Q := by
  rcases h0 with rfl | rfl
  · exact m_wide3z (by omega) hS hp ha hb hb2 hc hc2 hn hn2 hz k
  · exact m_wide4z (by omega) hS hp ha hb hb2 hc hc2 hn hn2 hz k
/-! ===== what stays ===== -/
theorem RelR1_same {g : GE} {w w' : GW} {σ τ : MW} {r : Nat} (h : RelR1 g w σ r) (h1 : gI w' 387 (aRow g r) = gI w 387 (aRow g r)) (h2 : ∀ i, i < 16 → gD w' (aRd g r) i = gD w (aRd g r) i) (h3 : ∀ i, i < 16 → gA w' (aRz g r) i = gA w (aRz g r) i) (h4 : ∀ i, i < 16 → mD τ 14 (16 * r + i) = mD σ 14 (16 * r + i)) (h5 : mA τ 12 r = mA σ 12 r) (h6 : mA τ 13 r = mA σ 13 r) (h7 : ∀ i, i < 16 → mA τ 15 (16 * r + i) = mA σ 15 (16 * r + i)) : RelR1 g w' τ r := by
  unfold RelR1
  rw [h1, h5, h6]
  rcases h with q | ⟨m, q1, q2, q3, q4, q5⟩
  · exact Or.inl q
  · exact Or.inr ⟨m, q1, q2, q3, q4, fun i hi => by rw [h2 i (by omega), h3 i (by omega), h4 i (by omega), h7 i (by omega)]; exact q5 i hi⟩
theorem RelD_same {g : GE} {w w' : GW} {σ τ : MW} (h : RelD g w σ) (h1 : ∀ i, gD w' (eB g + 67) i = gD w (eB g + 67) i) (h2 : ∀ i, mD τ 11 i = mD σ 11 i) : RelD g w' τ := fun j hj => by rw [h1, h2]; exact h j hj
theorem RelL_same {g : GE} {w w' : GW} {σ τ : MW} {c c' : Nat} (h : RelL g w σ c) (hc : c ≤ c') (h0 : gI w' 257 (eB g + 68) = gI w 257 (eB g + 68)) (h1 : ∀ i, gD w' (eB g + 69) i = gD w (eB g + 69) i) (h2 : ∀ i, mD τ 26 i = mD σ 26 i) (h3 : mI τ 38 = mI σ 38) : RelL g w' τ c' := by
  obtain ⟨n, n1, n2, n3, n4⟩ := h
  exact ⟨n, by omega, by rw [h0]; exact n2, by rw [h3]; exact n3, fun i hi => by rw [h1, h2]; exact n4 i hi⟩
theorem aRd_67 {g : GE} {r : Nat} (hr : r < 18) : ¬ aRd g r = eB g + 67 := by unfold aRd; omega
theorem aRd_69 {g : GE} {r : Nat} : ¬ aRd g r = eB g + 69 := by unfold aRd; omega
theorem aRd_inj {g : GE} {r r' : Nat} (h : ¬ r = r') : ¬ aRd g r = aRd g r' := by unfold aRd; omega
theorem aRz_inj {g : GE} {r r' : Nat} (h : ¬ r = r') : ¬ aRz g r = aRz g r' := by unfold aRz; omega
theorem aRow_inj {g : GE} {r r' : Nat} (h : ¬ r = r') : ¬ aRow g r = aRow g r' := by unfold aRow; omega
theorem gD_set_ne {w : GW} {a b i j : Nat} {x : UInt64} (h : ¬ a = b) : gD (setD w b j x) a i = gD w a i := by rw [gD_setD, up2_ne _ _ (fun q => h q.1)]
theorem gA_set_ne {w : GW} {a b i j : Nat} {x : Int32} (h : ¬ a = b) : gA (setA w b j x) a i = gA w a i := by rw [gA_setA, up2_ne _ _ (fun q => h q.1)]
section WORK
variable {g : GE} {P : PG} {d d2 r s i c nf : Nat} {w : GW} {σ : MW}
theorem WOK_fail {kd : Nat} (h1 : 1 ≤ kd) (h2 : kd < 12) (hC : AnsW g d (pQ P r i) w (some (.int (nI kd))) w) (hM : ∀ w', SK g w' → Ans g d2 mX10_work [.ref (eB g + 70), .int (nI (40 * r + i))] (put g σ w') none (put g (mFail σ nf (nI kd)) w')) : WOK g P d d2 w σ r i c nf :=
  ⟨_, _, hC, CFr_refl g w, rfl, fun _ => rfl, rfl, Or.inr ⟨kd, h1, h2, rfl, rfl, hM⟩⟩
theorem DRL_dial {b : Nat} {v : UInt64} (h : DRL g w σ c) (hv : dOK v) : DRL g (setD w (eB g + 67) b v) (sD σ 11 b v) c := by
  obtain ⟨h1, h2, h3⟩ := h
  refine ⟨fun j hj => ?_, fun r hr => RelR1_same (h2 r hr) rfl (fun i _ => gD_set_ne (aRd_67 hr)) (fun _ _ => rfl) (fun i _ => by rw [mD_sD, if_neg (by omega)]) rfl rfl (fun _ _ => rfl), RelL_same h3 (Nat.le_refl c) rfl (fun i => gD_set_ne (by omega)) (fun i => by rw [mD_sD, if_neg (by omega)]) rfl⟩
  by_cases e : j = b
  · subst e
    rw [gD_setD, up2_at, mD_sD, if_pos ⟨rfl, rfl⟩]
    exact ⟨rfl, hv⟩
  · rw [gD_setD, up2_ne _ _ (by omega), mD_sD, if_neg (by omega)]
    exact h1 j hj
theorem WOK_dial {b : Nat} {v : UInt64} (h : DRL g w σ c) (hv : dOK v) (hC : AnsW g d (pQ P r i) w (some (.int 0)) (setD w (eB g + 67) b v)) (hM : ∀ w', SK g w' → Ans g d2 mX10_work [.ref (eB g + 70), .int (nI (40 * r + i))] (put g σ w') none (put g (sD σ 11 b v) w')) : WOK g P d d2 w σ r i c nf :=
  ⟨0, _, hC, CFr_setD _ _ _ (Or.inl rfl), rfl, fun _ => rfl, rfl, Or.inl ⟨rfl, _, hM, DRL_dial h hv, MFr_sD, fun _ _ => rfl⟩⟩
/-- what a step that works finds -/
def WX (g : GE) (P : PG) (d d2 r i c nf : Nat) (w : GW) (σ : MW) : Prop := 8 ≤ d ∧ 10 ≤ d2 ∧ 40 * r + i < 160 ∧ c < 200 ∧ nf < 600 ∧ SK g w ∧ RelD g w σ ∧ RelR g w σ ∧ RelL g w σ c ∧ mI σ 22 = nI nf ∧ gOb g w (pQ P r i) 7 ∧ gI w 448 (pQ P r i) = mA σ 0 (40 * r + i) ∧ gI w 449 (pQ P r i) = mA σ 1 (40 * r + i) ∧ gI w 450 (pQ P r i) = mA σ 2 (40 * r + i) ∧ gI w 451 (pQ P r i) = mA σ 3 (40 * r + i)
theorem WX.drl (h : WX g P d d2 r i c nf w σ) : DRL g w σ (c + 1) := by
  obtain ⟨h1, h2, h3, h4, h5, h6, h7, h8, ⟨n, n1, n2⟩, h10⟩ := h
  exact ⟨h7, h8, n, by omega, n2⟩
theorem wk_set (h : WX g P d d2 r i c nf w σ) (hw : mA σ 0 (40 * r + i) = 19) {a : Nat} (ha2 : a < 8) (ha : mA σ 1 (40 * r + i) = nI a) : WOK g P d d2 w σ r i (c + 1) nf := by
  have hR := h.drl
  obtain ⟨h1, h2, h3, h4, h5, hS, h7, h8, h9, h10, q1, q2, q3, q4, q5⟩ := h
  refine WOK_dial hR (dOK_eighth _) (fun Q hQ => c_workSet (by omega) hS q1 (q2.trans hw) (q3.trans ha) ha2 (dOK_eighth _).2 ?_) (fun w' hS' Q hQ => m_workSet hS' h3 ha hw ha2 hQ)
  rw [q4]; exact hQ
theorem wk_note (h : WX g P d d2 r i c nf w σ) (hw : mA σ 0 (40 * r + i) = 24) {a : Nat} (ha2 : a < 8) (ha : mA σ 1 (40 * r + i) = nI a) : WOK g P d d2 w σ r i (c + 1) nf := by
  obtain ⟨h1, h2, h3, h4, h5, hS, h7, h8, ⟨n, n1, n2, n3, n4⟩, h10, q1, q2, q3, q4, q5⟩ := h
  obtain ⟨e1, e2⟩ := h7 a ha2
  refine ⟨0, appC g w n (mD σ 11 a), fun Q hQ => c_workNote (by omega) hS q1 (q2.trans hw) (q3.trans ha) ha2 n2 (by omega) (by rw [e1]; exact hQ), CFr_app, rfl, fun f => ?_, rfl, Or.inl ⟨rfl, appM σ n (mD σ 11 a), fun w' hS' Q hQ => m_workNote (by omega) hS' h3 ha hw ha2 n3 (by omega) hQ, ⟨?_, ?_, n + 1, by omega, ?_, ?_, ?_⟩, MFr_app (MFr_refl σ 60 nf), fun f hf => mI_app hf⟩⟩
  · by_cases hf : f = 257
    · subst hf
      show up2 _ 257 (eB g + 68) _ 257 (eB g + 1) = _
      rw [up2_ne _ _ (by omega)]; rfl
    · exact gI_app hf
  · exact RelD_same h7 (fun i => gD_app (by omega)) (fun i => mD_app (by omega))
  · exact fun r hr => RelR1_same (h8 r hr) (gI_app (by decide)) (fun i _ => gD_app (fun q => aRd_69 q.1)) (fun _ _ => rfl) (fun i _ => mD_app (by omega)) rfl rfl (fun _ _ => rfl)
  · show up2 _ 257 (eB g + 68) _ 257 (eB g + 68) = _
    rw [up2_at]
  · show mI (sI _ 38 _) 38 = _
    rw [mI_sI, if_pos rfl]
  · intro j hj
    by_cases e : j = n
    · subst e
      rw [gD_app_at, mD_app_at]
      exact ⟨rfl, e2.1⟩
    · rw [gD_app (by omega), mD_app (by omega)]
      exact n4 j (by omega)
theorem wk_drop (h : WX g P d d2 r i c nf w σ) (hw : mA σ 0 (40 * r + i) = 14) {a : Nat} (ha2 : a < 18) (ha : mA σ 1 (40 * r + i) = nI a) : WOK g P d d2 w σ r i (c + 1) nf := by
  have hR := h.drl
  obtain ⟨h1, h2, h3, h4, h5, hS, h7, h8, h9, h10, q1, q2, q3, q4, q5⟩ := h
  refine ⟨0, setI w 387 (aRow g a) (-1), fun Q hQ => c_workRow14 (q2.trans hw) (fun Q2 hQ2 => c_wwDrop (by omega) hS q1 ha2 (q3.trans ha) (q2.trans hw) hQ2) hQ, CFr_setI 387 _ _ (by omega), rfl, fun f => ?_, rfl, Or.inl ⟨rfl, sA σ 12 a 0, fun w' hS' Q hQ => m_workDrop hS' h3 ha hw ha2 hQ, ⟨RelD_same h7 (fun _ => rfl) (fun _ => rfl), fun r' hr' => ?_, RelL_same hR.2.2 (Nat.le_refl _) (by rw [gI_setI, up2_ne _ _ (by omega)]) (fun _ => rfl) (fun _ => rfl) rfl⟩, MFr_sA (by omega), fun _ _ => rfl⟩⟩
  · rw [gI_setI, up2_ne _ _ (by unfold aRow; omega)]
  · by_cases e : r' = a
    · subst e
      exact Or.inl ⟨by rw [gI_setI, up2_at], by rw [mA_sA, if_pos ⟨rfl, rfl⟩]⟩
    · exact RelR1_same (h8 r' hr') (by rw [gI_setI, up2_ne _ _ (fun q => aRow_inj e q.2)]) (fun _ _ => rfl) (fun _ _ => rfl) (fun _ _ => rfl) (by rw [mA_sA, if_neg (by omega)]) (by rw [mA_sA, if_neg (by omega)]) (fun i _ => by rw [mA_sA, if_neg (by omega)])
theorem wk_count (h : WX g P d d2 r i c nf w σ) (hw : mA σ 0 (40 * r + i) = 15) {a b : Nat} (ha2 : a < 18) (hb2 : b < 8) (ha : mA σ 1 (40 * r + i) = nI a) (hb : mA σ 2 (40 * r + i) = nI b) : WOK g P d d2 w σ r i (c + 1) nf := by
  have hR := h.drl
  obtain ⟨h1, h2, h3, h4, h5, hS, h7, h8, h9, h10, q1, q2, q3, q4, q5⟩ := h
  rcases h8 a ha2 with ⟨z1, z2⟩ | ⟨n, z1, z2, z3, z4, z5⟩
  · exact WOK_fail (kd := 3) (by decide) (by decide) (fun Q hQ => c_workRow15 (q2.trans hw) (fun Q2 hQ2 => c_wwCountF (by omega) hS q1 ha2 (q3.trans ha) (q4.trans hb) hb2 (q2.trans hw) (by rw [z1]; decide) hQ2) hQ) (fun w' hS' Q hQ => m_workCountF (by omega) hS' h3 ha hw hb hb2 ha2 h10 h5 z2 hQ)
  · refine WOK_dial hR (b := b) (dOK_i2d (nI n)) (fun Q hQ => c_workRow15 (q2.trans hw) (fun Q2 hQ2 => c_wwCount (by omega) hS q1 ha2 (q3.trans ha) (q4.trans hb) hb2 (q2.trans hw) (by rw [z2]; exact nI_pos' (by omega)) (by rw [z2]; exact (dOK_i2d (nI n)).2) (by rw [z2]; exact hQ2)) hQ) (fun w' hS' Q hQ => m_workCount hS' h3 ha hw hb hb2 ha2 (by rw [z3]; decide) (by rw [z4]; exact hQ))
/-! rows: faults alike -/
theorem fIn_len {n : Nat} (hn : n ≤ 16) {v : Int32} : fIn v 0 (nI n - 1) = 0 ↔ ¬ ∃ j : Nat, j < n ∧ v = nI j := by
  constructor
  · rintro h ⟨j, hj, rfl⟩
    have e : nI n - 1 = nI (n - 1) := by
      obtain ⟨m, rfl⟩ : ∃ m, n = m + 1 := ⟨n - 1, by omega⟩
      rw [← nI_1, Nat.add_sub_cancel]
      simp
    rw [e] at h
    have h1 : fIn (nI j) 0 (nI (n - 1)) = 1 := fIn_1.mpr ⟨nI_pos (by omega), fun q => absurd ((nI_ltI (by omega) (by omega)).mp q) (by omega)⟩
    rw [h1] at h
    exact absurd h (by decide)
  · intro h
    rcases fIn_01 v 0 (nI n - 1) with q | q
    · exact q
    · exact absurd (log_ix (by omega) (by rw [q]; decide)) h
theorem flt_at {n : Nat} (hn : n ≤ 16) {v : Int32} : fFaultAt (nI n) v = if fIn v 0 (nI n - 1) = 0 then 4 else 0 := by
  unfold fFaultAt
  rw [if_pos (nI_pos' (by omega))]
  by_cases h : ∃ j : Nat, j < n ∧ v = nI j
  · rw [if_neg (fun q => (fIn_len hn).mp q h)]
    obtain ⟨j, hj, rfl⟩ := h
    rw [if_neg]
    rintro (q | q | q)
    · exact nI_pos (by omega) q
    · exact nI_ge hj (by omega) q
    · exact nI_ge (b := 16) (by omega) (by decide) q
  · rw [if_pos ((fIn_len hn).mpr h), if_pos]
    by_cases h0 : v < 0
    · exact Or.inl h0
    · obtain ⟨j, hj, rfl⟩ := nI_of h0
      refine Or.inr (Or.inl (nI_le ?_ hj))
      rcases Nat.lt_or_ge j n with q | q
      · exact absurd ⟨j, q, rfl⟩ h
      · exact q
theorem flt_eq {a : Nat} (h : RelR1 g w σ a) (v : Int32) : fFaultAt (rowPl g w a) v = mFaultOf σ a v 0 ∧ fUse g w a v = mFaultOf σ a v 1 ∧ (∃ L : Nat, L ≤ 16 ∧ (¬ mA σ 12 a = 0 → mA σ 13 a = nI L)) ∧ (fFaultAt (rowPl g w a) v = 0 → ∃ j : Nat, j < 16 ∧ v = nI j ∧ gD w (aRd g a) j = mD σ 14 (16 * a + j) ∧ dOK (mD σ 14 (16 * a + j))) := by
  have e : rowPl g w a = gI w 387 (aRow g a) := rfl
  unfold fUse mFaultOf
  rw [e]
  rcases h with ⟨z1, z2⟩ | ⟨n, z1, z2, z3, z4, z5⟩
  · rw [z1, z2, if_pos rfl, if_pos rfl]
    have e3 : fFaultAt (-1) v = 3 := by unfold fFaultAt; rw [if_neg (by decide)]
    rw [e3, if_neg (by decide)]
    exact ⟨rfl, rfl, ⟨0, by omega, fun q => absurd rfl q⟩, fun q => absurd q (by decide)⟩
  · rw [z2, z3, z4, flt_at z1]
    have e1 : ¬ (1 : Int32) = 0 := by decide
    have e4 : ¬ (4 : Int32) = 0 := by decide
    by_cases h : fIn v 0 (nI n - 1) = 0
    · refine ⟨?_, ?_, ⟨n, z1, fun _ => rfl⟩, fun q => ?_⟩
      · rw [if_pos h, if_neg e1, if_pos h]
      · rw [if_pos h, if_neg e4, if_neg e1, if_pos h]
      · rw [if_pos h] at q; exact absurd q e4
    · obtain ⟨j, hj, rfl⟩ := log_ix (by omega) h
      obtain ⟨y1, y2, y3, y4⟩ := z5 j hj
      refine ⟨?_, ?_, ⟨n, z1, fun _ => rfl⟩, fun _ => ⟨j, by omega, rfl, y1, y2⟩⟩
      · rw [if_neg h, if_neg e1, if_neg h, if_pos rfl]
      · rw [if_neg h, if_pos rfl, if_neg e1, if_neg h, if_neg e1, nI_clamp (by omega), y3]
        by_cases h16 : a < 16
        · rw [if_pos h16, if_pos h16, if_neg e1]
        · rw [if_neg h16, if_neg h16]
theorem mFault_rng (a : Nat) (v pr : Int32) : mFaultOf σ a v pr = 0 ∨ ∃ kd : Nat, 1 ≤ kd ∧ kd < 12 ∧ mFaultOf σ a v pr = nI kd ∧ 0 < mFaultOf σ a v pr ∧ ¬ mFaultOf σ a v pr = 0 := by
  have h3 : ∃ kd : Nat, 1 ≤ kd ∧ kd < 12 ∧ (3 : Int32) = nI kd ∧ (0 : Int32) < 3 ∧ ¬ (3 : Int32) = 0 := ⟨3, by decide, by decide, rfl, by decide, by decide⟩
  have h4 : ∃ kd : Nat, 1 ≤ kd ∧ kd < 12 ∧ (4 : Int32) = nI kd ∧ (0 : Int32) < 4 ∧ ¬ (4 : Int32) = 0 := ⟨4, by decide, by decide, rfl, by decide, by decide⟩
  unfold mFaultOf
  split
  · exact Or.inr h3
  split
  · exact Or.inr h4
  split
  · exact Or.inl rfl
  split
  · exact Or.inl rfl
  split
  · exact Or.inr h3
  · exact Or.inl rfl
theorem DRL_cell {a j : Nat} {v : UInt64} (hR : DRL g w σ c) (ha2 : a < 18) (hj : j < 16) (hv : dOK v) : DRL g (setD w (aRd g a) j v) (sD σ 14 (16 * a + j) v) c := by
  obtain ⟨h1, h2, h3⟩ := hR
  refine ⟨RelD_same h1 (fun i => gD_set_ne (fun q => aRd_67 ha2 q.symm)) (fun i => by rw [mD_sD, if_neg (by omega)]), fun r hr => ?_, RelL_same h3 (Nat.le_refl c) rfl (fun i => gD_set_ne (fun q => aRd_69 q.symm)) (fun i => by rw [mD_sD, if_neg (by omega)]) rfl⟩
  by_cases e : r = a
  · subst e
    rcases h2 r hr with q | ⟨m, q1, q2, q3, q4, q5⟩
    · exact Or.inl q
    · refine Or.inr ⟨m, q1, q2, q3, q4, fun i hi => ?_⟩
      obtain ⟨y1, y2, y3⟩ := q5 i hi
      by_cases ei : i = j
      · subst ei
        rw [gD_setD, up2_at, mD_sD, if_pos ⟨rfl, rfl⟩]
        exact ⟨rfl, hv, y3⟩
      · rw [gD_setD, up2_ne _ _ (by omega), mD_sD, if_neg (by omega)]
        exact ⟨y1, y2, y3⟩
  · exact RelR1_same (h2 r hr) rfl (fun i _ => gD_set_ne (aRd_inj e)) (fun _ _ => rfl) (fun i _ => by rw [mD_sD, if_neg (by omega)]) rfl rfl (fun _ _ => rfl)
end WORK
