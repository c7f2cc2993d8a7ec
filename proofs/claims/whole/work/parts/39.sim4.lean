theorem c_stepW {g : GE} {d : Nat} {w : GW} {Q : Int32 → GW → Prop} {cau : Option Nat} (hd : 4 ≤ d) {q rt cl c kk : Nat} (hS : SK g w) (hq : gOb g w q 7) (hc : gI w 5 (eB g + 1) = nI c) (hc2 : c < 200) (hk1 : 13 ≤ kk) (hk2 : kk ≤ 24) (hw : gI w 448 q = nI kk) {v9 : Int32} {w9 : GW} (hM : AnsW g (d - 1) q (setI w 5 (eB g + 1) (nI (c + 1))) (some (.int v9)) w9) (hq9 : gOb g w9 q 7) (hS9 : SK g w9) (k1 : v9 = 0 → Q 0 w9) (k2 : ¬ v9 = 0 → Q 3 (thrF g w9 v9 (gI w9 453 q) 0 0 (gI w9 453 q) (fWeight v9 0 1))) : gMI g d mX0_doStep [.ref (eB g + 1), .ref rt, .ref q, va_rf cau, .int (nI cl)] w Q := by
  have hh : kk = 13 ∨ kk = 14 ∨ kk = 15 ∨ kk = 16 ∨ kk = 17 ∨ kk = 18 ∨ kk = 19 ∨ kk = 20 ∨ kk = 21 ∨ kk = 22 ∨ kk = 23 ∨ kk = 24 := by omega
  rcases hh with rfl | rfl | rfl | rfl | rfl | rfl | rfl | rfl | rfl | rfl | rfl | rfl
  · exact c_stepW13 hd hS hq hc hc2 hw hM hq9 hS9 k1 k2
  · exact c_stepW14 hd hS hq hc hc2 hw hM hq9 hS9 k1 k2
  · exact c_stepW15 hd hS hq hc hc2 hw hM hq9 hS9 k1 k2
  · exact c_stepW16 hd hS hq hc hc2 hw hM hq9 hS9 k1 k2
  · exact c_stepW17 hd hS hq hc hc2 hw hM hq9 hS9 k1 k2
  · exact c_stepW18 hd hS hq hc hc2 hw hM hq9 hS9 k1 k2
  · exact c_stepW19 hd hS hq hc hc2 hw hM hq9 hS9 k1 k2
  · exact c_stepW20 hd hS hq hc hc2 hw hM hq9 hS9 k1 k2
  · exact c_stepW21 hd hS hq hc hc2 hw hM hq9 hS9 k1 k2
  · exact c_stepW22 hd hS hq hc hc2 hw hM hq9 hS9 k1 k2
  · exact c_stepW23 hd hS hq hc hc2 hw hM hq9 hS9 k1 k2
  · exact c_stepW24 hd hS hq hc hc2 hw hM hq9 hS9 k1 k2
/-- a step that works with dials, rows or the LOG: both sides do it alike (w, σ: it is counted already) -/
def WOK (g : GE) (P : PG) (d d2 : Nat) (w : GW) (σ : MW) (r i c nf : Nat) : Prop := ∃ (v9 : Int32) (w9 : GW), AnsW g d (pQ P r i) w (some (.int v9)) w9 ∧ CFr g w w9 ∧ gN w9 = gN w ∧ (∀ f, gI w9 f (eB g + 1) = gI w f (eB g + 1)) ∧ gR w9 = gR w ∧
  ((v9 = 0 ∧ ∃ τ : MW, (∀ w', SK g w' → Ans g d2 mX10_work [.ref (eB g + 70), .int (nI (40 * r + i))] (put g σ w') none (put g τ w')) ∧ DRL g w9 τ c ∧ MFr σ τ 60 nf ∧ (∀ f, f ≠ 38 → mI τ f = mI σ f)) ∨
   (∃ kd : Nat, 1 ≤ kd ∧ kd < 12 ∧ v9 = nI kd ∧ w9 = w ∧ ∀ w', SK g w' → Ans g d2 mX10_work [.ref (eB g + 70), .int (nI (40 * r + i))] (put g σ w') none (put g (mFail σ nf (nI kd)) w')))
section STEP3
variable {g : GE} {P : PG} {d d2 r s i o tr cl c nf h t : Nat} {l cc : Bool} {w : GW} {σ : MW} {cau : Option Nat}
theorem sim_work {kk : Nat} (hd : 5 ≤ d) (hd2 : 12 ≤ d2) (hr : r < 4) (hB : Base g P w σ c nf) (hc : c < 200) (hP : PR1 g P w (mA σ) r s) (hi : i < s) (hA : At g w σ r i o tr cl) (ho : o + h ≤ 50) (hk1 : 13 ≤ kk) (hk2 : kk ≤ 24) (hw : mA σ 0 (40 * r + i) = nI kk) (ht : t = i + 1) (H : WOK g P (d - 1) (d2 - 2) (setI w 5 (eB g + 1) (nI (c + 1))) (sI σ 34 (nI (c + 1))) r i (c + 1) nf) : gMI g d mX0_doStep [.ref (eB g + 1), .ref (aRt g r), .ref (pQ P r i), va_rf cau, .int (nI cl)] w (SRes g P d2 w σ r t l o cl c nf h) := by
  obtain ⟨q1, q2, q3, q4, q5, q6, q7⟩ := stepQ hP hi
  have hG := GoX_of hr hP hi hA ho
  have hB1 := Base_count hB hc
  obtain ⟨v9, w9, a1, a2, a3, a4, a5, a6⟩ := H
  have hp : ¬ isPrt (mA σ 0 (40 * r + i)) := by
    rw [hw]
    rintro (q | q | q)
    · exact absurd ((nI_eq (a := kk) (b := 0) (by omega) (by decide)).mp q) (by omega)
    · exact absurd ((nI_eq (a := kk) (b := 2) (by omega) (by decide)).mp q) (by omega)
    · exact absurd ((nI_eq (a := kk) (b := 3) (by omega) (by decide)).mp q) (by omega)
  have hge : (13 : Int32) ≤ mA σ 0 (40 * r + i) := by rw [hw]; exact nI_le (a := 13) hk1 (by omega)
  have h30 : mI (sI σ 34 (nI (c + 1))) 30 = nI (40 * r + i) := by rw [mI_sI, if_neg (by decide)]; exact hA.2.2.2.2.1
  have e453 : gI (setI w 5 (eB g + 1) (nI (c + 1))) 453 (pQ P r i) = nI (40 * r + i) := by rw [gI_setI, up2_ne _ _ (by omega), q6]
  refine c_stepW (by omega) hB.1 q1 hB.2.2.2.1.2.1 hc hk1 hk2 (by rw [q2]; exact hw) a1 (a2.ob q1) (a2.sk hB1.1) (fun hv => ?_) (fun hv => ?_)
  · rcases a6 with ⟨-, τ, b1, b2, b3, b4⟩ | ⟨kd, b1, b2, b3, -⟩
    · have hBt : Base g P w9 τ (c + 1) nf := by
        obtain ⟨n1, n2, n3, n4, n5, n6⟩ := hB1.2.2.2.1
        exact ⟨a2.sk hB1.1, PR_same hB1.1 a2 b3.1 hB1.2.1, b2, ⟨n1, by rw [a4]; exact n2, by rw [b4 _ (by decide)]; exact n3, by rw [a4, b4 _ (by decide)]; exact n4, by rw [a4, b4 _ (by decide)]; exact n5, by rw [b4 _ (by decide)]; exact n6⟩, fun j hj => by rw [b3.2.1]; exact hB1.2.2.2.2.1 j hj, hB1.2.2.2.2.2⟩
      have ho60 := hG.2.1
      refine Res_plain (b := 0) (σ1 := sI τ 30 (nI (40 * r + i + 1))) (MS_work hd2 hG hA.2.2.2.1 hp hge hB.2.2.2.1.2.2.1 hc b1 (by rw [b4 _ (by decide)]; exact h30) (fun _ => rfl) (fun q => absurd (by rw [b4 _ (by decide), mI_sI, if_neg (by decide)]; exact hA.2.2.2.1) q)) (Base_I 30 _ hBt (by omega)) ((CFr_setI 5 _ _ (by omega)).thn a2) (MFr.I 30 _ ((MFr_sI (f := 34) (by omega)).thn (b3.less (b := o + 1) (nf := nf) (by omega) (Nat.le_refl nf)) (Nat.le_refl _) (Nat.le_refl _)) (by omega)) a3 hc ?_ ?_ (Or.inl ⟨rfl, ?_, ?_, ?_⟩)
      · rw [mI_sI, if_neg (by decide), b4 _ (by decide), mI_sI, if_neg (by decide)]; exact hA.1
      · rw [mI_sI, if_neg (by decide), b4 _ (by decide), mI_sI, if_neg (by decide)]; exact hA.2.2.1
      · rw [mI_sI, if_neg (by decide), b4 _ (by decide), mI_sI, if_neg (by decide)]; exact hA.2.2.2.1
      · rw [mI_sI, if_pos rfl, ht]; rfl
      · rw [a5]; exact hA.2.2.2.2.2
    · rw [hv] at b3
      exact absurd ((nI_eq (a := 0) (b := kd) (by decide) (by omega)).mp b3) (by omega)
  · rcases a6 with ⟨b1, -⟩ | ⟨kd, b1, b2, rfl, rfl, b5⟩
    · exact absurd b1 hv
    · rw [e453]
      refine SRes_throw (be := -1) (em := 0) (MS_work hd2 hG hA.2.2.2.1 hp hge hB.2.2.2.1.2.2.1 hc b5 ?_ (fun q => absurd q ?_) (fun _ => mFail_eq h30)) hB hc hA (FR_new hB1.1 b1 b2)
      · rw [mFail_eq h30, mI_throw, if_neg (by decide), if_neg (by decide), if_neg (by decide)]; exact h30
      · rw [mFail_eq h30, mI_throw, if_neg (by decide), if_pos rfl]; decide
end STEP3
