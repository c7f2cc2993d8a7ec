theorem PR1_uniq {g : GE} {P : PG} {w w' : GW} {A A' : Nat → Nat → Int32} {r s s' : Nat} (h : PR1 g P w A r s) (h' : PR1 g P w' A' r s') (e : A' 6 r = A 6 r) : s' = s := by
  have h1 := h.2.2.1
  have h2 := h'.2.2.1
  have := h.1
  have := h'.1
  rw [e, h1] at h2
  exact ((nI_eq (by omega) (by omega)).mp h2).symm
theorem Base.pr1 {g : GE} {P : PG} {w w' : GW} {σ : MW} {A' : Nat → Nat → Int32} {c nf r s : Nat} (h : Base g P w σ c nf) (hr : r < 4) (h' : PR1 g P w' A' r s) (e : mA σ 6 r = A' 6 r) : PR1 g P w (mA σ) r s := by
  obtain ⟨s1, h1, -⟩ := h.2.1 r hr
  rw [← PR1_uniq h' h1 e]
  exact h1
/-- one step, a block counts as one -/
def SRes (g : GE) (P : PG) (d2 : Nat) (w : GW) (σ : MW) (r t : Nat) (l : Bool) (o cl c nf h : Nat) (v : Int32) (w' : GW) : Prop := Res g P d2 w σ r t l o cl c nf (3 * h) v w' ∧ (c = 200 → ¬ v = 0)
def nxt (P : PG) (r i : Nat) : Nat := (if i < pE P r i then pE P r i else i) + 1
def StpSim (g : GE) (P : PG) (d2 n cl h : Nat) : Prop := ∀ (d k r s i t o tr c nf : Nat) (l cc : Bool) (w : GW) (σ : MW) (cau : Option Nat), 5 * h + 9 ≤ d → r < 4 → Base g P w σ c nf → PR1 g P w (mA σ) r s → t ≤ s → i < t → WS (fun i => mA σ 0 (40 * r + i)) (pN P r) (pE P r) (k + 1) n l i t cc → At g w σ r i o tr cl → Cau g w σ o nf cau cc → Cap c nf h → o + h ≤ 50 → (nxt P r i ≤ t ∧ ∃ k' : Nat, WS (fun i => mA σ 0 (40 * r + i)) (pN P r) (pE P r) k' n l (nxt P r i) t cc) ∧ gMI g d mX0_doStep [.ref (eB g + 1), .ref (aRt g r), .ref (pQ P r i), va_rf cau, .int (nI cl)] w (SRes g P d2 w σ r (nxt P r i) l o cl c nf h)
theorem Res_thn {g : GE} {P : PG} {d2 : Nat} {w w1 w' : GW} {σ σ1 : MW} {r t : Nat} {l : Bool} {o cl c nf c1 nf1 b b1 k1 : Nat} {v : Int32} (hm : MS g d2 k1 σ σ1) (hC : CFr g w w1) (hM : MFr σ σ1 (o + 1) nf) (hg : gN w1 + nf = gN w + nf1) (hn : nf ≤ nf1) (hb : ∀ c' nf' k, Bnd c1 nf1 b1 c' nf' k → c' ≤ 200 → Bnd c nf b c' nf' (k1 + k)) (h : Res g P d2 w1 σ1 r t l o cl c1 nf1 b1 v w') : Res g P d2 w σ r t l o cl c nf b v w' := by
  obtain ⟨σ', c', nf', k, h1, h2, h3, h4, h5, h6, h7, h8, h9⟩ := h
  exact ⟨σ', c', nf', k1 + k, hm.thn h1, h2, hC.thn h3, hM.thn h4 (Nat.le_refl _) hn, hb _ _ _ h5 h2.2.2.2.1.1, by omega, h7, h8, h9⟩
theorem Out_nt {g : GE} {w : GW} {σ : MW} {r t t' : Nat} {l : Bool} {nf : Nat} {v : Int32} (hv : ¬ v = 0) (h : Out g w σ r t l nf v) : Out g w σ r t' l nf v := by
  rcases h with q | q | q | q
  · exact absurd q.1 hv
  · exact Or.inr (Or.inl q)
  · exact Or.inr (Or.inr (Or.inl q))
  · exact Or.inr (Or.inr (Or.inr q))
theorem Res_nt {g : GE} {P : PG} {d2 : Nat} {w w' : GW} {σ : MW} {r t t' : Nat} {l : Bool} {o cl c nf b : Nat} {v : Int32} (hv : ¬ v = 0) (h : Res g P d2 w σ r t l o cl c nf b v w') : Res g P d2 w σ r t' l o cl c nf b v w' := by
  obtain ⟨σ', c', nf', k, h1, h2, h3, h4, h5, h6, h7, h8, h9⟩ := h
  exact ⟨σ', c', nf', k, h1, h2, h3, h4, h5, h6, h7, h8, Out_nt hv h9⟩
/-- behind some steps that came to their end -/
def Mid (g : GE) (P : PG) (d2 : Nat) (w : GW) (σ : MW) (r n t o tr cl c nf h : Nat) (l cc : Bool) (i : Nat) (w1 : GW) : Prop :=
  ∃ (σ1 : MW) (c1 nf1 k1 kf : Nat), MS g d2 k1 σ σ1 ∧ Base g P w1 σ1 c1 nf1 ∧ CFr g w w1 ∧ MFr σ σ1 (o + 1) nf ∧ gN w1 + nf = gN w + nf1 ∧ At g w1 σ1 r i o tr cl ∧ WS (fun i => mA σ 0 (40 * r + i)) (pN P r) (pE P r) kf n l i t cc ∧
    (c ≤ c1 ∧ nf ≤ nf1 ∧ k1 + 4 * c + 4 * nf ≤ 4 * c1 + 4 * nf1 ∧ (c1 < 200 → nf1 + c ≤ nf + c1) ∧ (c < 200 → nf1 + c ≤ nf + c1 + 3 * h) ∧ (c = 200 → nf1 = nf))
theorem wh_same {σ σ1 : MW} {b nf r : Nat} (h : MFr σ σ1 b nf) : (fun i => mA σ1 0 (40 * r + i)) = (fun i => mA σ 0 (40 * r + i)) := funext fun i => h.1 0 _ (by omega)
theorem Sim_of {g : GE} {P : PG} {d2 n cl h : Nat} (H : StpSim g P d2 n cl h) : Sim g P d2 n cl h := by
  intro d k r s f t o tr c nf l cc w σ cau hd hr hB hP hts hft hW hA hCa hcap ho
  have hs40 := hP.1
  refine c_doSteps (by omega) hr hft (by omega) (Mid g P d2 w σ r n t o tr cl c nf h l cc) ⟨σ, c, nf, 0, k, MS_same, hB, CFr_refl g w, MFr_refl _ _ _, rfl, hA, hW, by omega⟩ ?_ ?_
  · intro i w1 hI hit
    obtain ⟨σ1, c1, nf1, k1, kf, m1, m2, m3, m4, m5, m6, m7, m8⟩ := hI
    have hP1 : PR1 g P w1 (mA σ1) r s := m2.pr1 hr hP (m4.1 6 r (by omega))
    have hstep := hP1.2.2.2.2.1 i (by omega)
    have hc200 := m2.2.2.2.1.1
    have hcb := hB.2.2.2.1.1
    unfold Cap at hcap
    cases kf with
    | zero => exact absurd m7 (by show ¬ i = t; omega)
    | succ kf =>
      have hst := H (d - 1) kf r s i t o tr c1 nf1 l cc w1 σ1 cau (by omega) hr m2 hP1 hts hit (by rw [wh_same m4]; exact m7) m6 (Cau_same m4 (Nat.le_refl _) m3 (by omega) (by omega) hCa) (by unfold Cap; omega) ho
      obtain ⟨⟨n1, k', n2⟩, hst⟩ := hst
      have he := (hP1.2.2.2.2.2.2 i (by omega)).1
      refine ⟨s, pQ P r i, pE P r i, m2.1, hP1.2.1, by omega, by omega, hstep.1, hstep.2.1, by omega, hst.imp (fun v w2 _ hv => ⟨fun hv0 => ?_, fun hv0 => ?_⟩)⟩
      · refine Res_nt hv0 (Res_thn m1 m3 m4 m5 m8.2.1 (fun c' nf' k hb hc' => ?_) hv.1)
        unfold Bnd at hb ⊢
        omega
      · subst hv0
        have h200 : c1 < 200 := by
          rcases Nat.lt_or_ge c1 200 with q | q
          · exact q
          · exact absurd rfl (hv.2 (by omega))
        obtain ⟨σ2, c2, nf2, k2, r1, r2, r3, r4, r5, r6, r7, r8, r9⟩ := hv.1
        have hP2 : PR1 g P w2 (mA σ2) r s := r2.pr1 hr hP1 (r4.1 6 r (by omega))
        have hq2 := hP2.2.2.2.2.1 i (by omega)
        rcases r9 with q | q | q | q
        · refine ⟨hq2.2.2.2.2.2.2.2.2.1, hq2.2.1, n1, σ2, c2, nf2, k1 + k2, k', m1.thn r1, r2, m3.thn r3, m4.thn r4 (Nat.le_refl _) m8.2.1, by omega, ⟨r7, topR_same r4 (Nat.le_refl _) m6.2.1, r8, q.2.1, q.2.2.1, q.2.2.2⟩, by rw [← wh_same m4]; exact n2, ?_⟩
          unfold Bnd at r5
          omega
        · exact absurd q.1 (by decide)
        · exact absurd q.1 (by decide)
        · exact absurd q.1 (by decide)
  · intro w1 hI
    obtain ⟨σ1, c1, nf1, k1, kf, m1, m2, m3, m4, m5, m6, m7, m8⟩ := hI
    refine ⟨σ1, c1, nf1, k1, m1, m2, m3, m4, ?_, m5, m6.1, m6.2.2.1, Or.inl ⟨rfl, m6.2.2.2.1, m6.2.2.2.2.1, m6.2.2.2.2.2⟩⟩
    unfold Bnd
    omega
/-! ===== what stays the same of dials, rows and LOG ===== -/
def SmC (g : GE) (w w' : GW) : Prop := gD w' = gD w ∧ gA w' = gA w ∧ (∀ r, r < 18 → gI w' 387 (aRow g r) = gI w 387 (aRow g r)) ∧ gI w' 257 (eB g + 68) = gI w 257 (eB g + 68)
def SmM (σ σ' : MW) : Prop := mD σ' = mD σ ∧ (∀ j i, j = 12 ∨ j = 13 ∨ j = 15 → mA σ' j i = mA σ j i) ∧ mI σ' 38 = mI σ 38
theorem Sm_mk {g : GE} {w w' : GW} {σ σ' : MW} (h : SmC g w w') (k : SmM σ σ') : Sm g w w' σ σ' := ⟨h.1, h.2.1, h.2.2.1, h.2.2.2, k.1, k.2.1, k.2.2⟩
theorem SmC_refl (g : GE) (w : GW) : SmC g w w := ⟨rfl, rfl, fun _ _ => rfl, rfl⟩
theorem SmC.thn {g : GE} {w w1 w2 : GW} (h : SmC g w w1) (k : SmC g w1 w2) : SmC g w w2 := ⟨by rw [k.1, h.1], by rw [k.2.1, h.2.1], fun r hr => by rw [k.2.2.1 r hr, h.2.2.1 r hr], by rw [k.2.2.2, h.2.2.2]⟩
theorem SmC_setI {g : GE} {w : GW} (c a : Nat) (x : Int32) (hc : c ≠ 387 ∧ c ≠ 257) : SmC g w (setI w c a x) := ⟨rfl, rfl, fun r hr => by rw [gI_setI, up2_ne _ _ (by omega)], by rw [gI_setI, up2_ne _ _ (by omega)]⟩
theorem SmC_setR {g : GE} {w : GW} (c a : Nat) (x : Option Nat) : SmC g w (setR w c a x) := ⟨rfl, rfl, fun r hr => rfl, rfl⟩
theorem SmC_thrF {g : GE} {w : GW} {k p n e f t : Int32} (hS : SK g w) : SmC g w (thrF g w k p n e f t) := ⟨rfl, rfl, fun r hr => gI_thrF_old (hS.row hr).1.2.1, gI_thrF_old (hS.ob 68 rfl).2.1⟩
theorem SmM_refl (σ : MW) : SmM σ σ := ⟨rfl, fun _ _ _ => rfl, rfl⟩
theorem SmM.I {σ τ : MW} (f : Nat) (x : Int32) (h : SmM σ τ) (hf : f ≠ 38) : SmM σ (sI τ f x) := ⟨h.1, h.2.1, by rw [mI_sI, if_neg (by omega)]; exact h.2.2⟩
theorem SmM.A {σ τ : MW} (j i : Nat) (x : Int32) (h : SmM σ τ) (hf : 16 ≤ j) : SmM σ (sA τ j i x) := ⟨h.1, fun j' i' q => by rw [mA_sA, if_neg (by omega)]; exact h.2.1 j' i' q, h.2.2⟩
theorem SmM_push {σ τ : MW} {o : Nat} {k s l : Int32} (h : SmM σ τ) : SmM σ (mPush τ o k s l) := (((((h.A 21 o k (by omega)).A 22 o s (by omega)).A 23 o l (by omega)).A 24 o (-1) (by omega)).A 25 o 0 (by omega)).I 29 _ (by omega)
theorem SmM_throw {σ τ : MW} {n : Nat} {k p nu be em : Int32} (h : SmM σ τ) : SmM σ (mThrow τ n k p nu be em) := (((((((h.A 16 n k (by omega)).A 17 n p (by omega)).A 18 n nu (by omega)).A 19 n be (by omega)).A 20 n em (by omega)).I 32 _ (by omega)).I 31 _ (by omega)).I 22 _ (by omega)
theorem mI_throw (σ : MW) (n : Nat) (kd pl nu be em : Int32) (f : Nat) : mI (mThrow σ n kd pl nu be em) f = if f = 22 then nI (n + 1) else if f = 31 then 3 else if f = 32 then nI n else mI σ f := by
  unfold mThrow
  rw [mI_sI, mI_sI, mI_sI]
  rfl
theorem mI_push (σ : MW) (o : Nat) (k s l : Int32) (f : Nat) : mI (mPush σ o k s l) f = if f = 29 then nI (o + 1) else mI σ f := by
  unfold mPush
  rw [mI_sI]
  rfl
/-- a new fault is thrown on both sides, by a step that began in w, σ and is counted to c1 -/
theorem Res_throw {g : GE} {P : PG} {d2 : Nat} {w w1 : GW} {σ σ1 : MW} {r t : Nat} {l : Bool} {o cl c nf c1 b kd : Nat} {pl nu be em t5 : Int32} {e5 f5 : Int32} (hm : MS g d2 1 σ (mThrow σ1 nf (nI kd) pl nu be em)) (hB : Base g P w1 σ1 c1 nf) (hC : CFr g w w1) (hM : MFr σ σ1 (o + 1) nf) (hg : gN w1 = gN w) (h29 : mI σ1 29 = nI (o + 1)) (h33 : mI σ1 33 = nI cl) (hb : Bnd c nf b c1 (nf + 1) 1) (hF : FR g (thrF g w1 (nI kd) pl nu e5 f5 t5) (mA (mThrow σ1 nf (nI kd) pl nu be em)) (nf + 1) (gN w1) nf) : Res g P d2 w σ r t l o cl c nf b 3 (thrF g w1 (nI kd) pl nu e5 f5 t5) := by
  refine ⟨_, c1, nf + 1, 1, hm, Base_same hB CFr_thrF (MFr_throw (Nat.le_refl nf) (b := o + 1)) (Nat.le_refl c1) (Sm_mk (SmC_thrF hB.1) (SmM_throw (SmM_refl σ1))) ?_, hC.thn CFr_thrF, hM.thn (MFr_throw (Nat.le_refl nf)) (Nat.le_refl _) (Nat.le_refl _), hb, by rw [gN_thrF]; omega, ?_, ?_, Or.inr (Or.inr (Or.inr ⟨rfl, ?_, gN w1, nf, gR_thrF, ?_, hF⟩))⟩
  · obtain ⟨n1, n2, n3, n4, n5, n6⟩ := hB.2.2.2.1
    have o1 := (hB.1.ob 1 rfl).2.1
    refine ⟨n1, by rw [gI_thrF_old o1]; exact n2, ?_, ?_, ?_, ?_⟩
    · rw [mI_throw, if_neg (by decide), if_neg (by decide), if_neg (by decide)]; exact n3
    · rw [gI_thrF_old o1, mI_throw, if_neg (by decide), if_neg (by decide), if_neg (by decide)]; exact n4
    · rw [gI_thrF_old o1, mI_throw, if_neg (by decide), if_neg (by decide), if_neg (by decide)]; exact n5
    · rw [mI_throw, if_pos rfl]
  · rw [mI_throw, if_neg (by decide), if_neg (by decide), if_neg (by decide)]; exact h29
  · rw [mI_throw, if_neg (by decide), if_neg (by decide), if_neg (by decide)]; exact h33
  · rw [mI_throw, if_neg (by decide), if_pos rfl]
  · rw [mI_throw, if_neg (by decide), if_neg (by decide), if_pos rfl]
/-- what the model's 'go' wants to know -/
def GoX (g : GE) (σ : MW) (r s i o tr : Nat) : Prop := mI σ 29 = nI (o + 1) ∧ o < 60 ∧ topR σ (o + 1) tr r ∧ mA σ 6 r = nI s ∧ s ≤ 40 ∧ mI σ 30 = nI (40 * r + i) ∧ 40 * r + i < 160 ∧ ¬ 40 * r + i = 40 * r + s
theorem GoX_of {g : GE} {P : PG} {w : GW} {σ : MW} {r s i o tr cl h : Nat} (hr : r < 4) (hP : PR1 g P w (mA σ) r s) (hi : i < s) (hA : At g w σ r i o tr cl) (ho : o + h ≤ 50) : GoX g σ r s i o tr := by
  have := hP.1
  exact ⟨hA.1, by omega, hA.2.1, hP.2.2.1, hP.1, hA.2.2.2.2.1, by omega, by omega⟩
/-- counted: both sides -/
theorem Base_count {g : GE} {P : PG} {w : GW} {σ : MW} {c nf : Nat} (hB : Base g P w σ c nf) (hc : c < 200) : Base g P (setI w 5 (eB g + 1) (nI (c + 1))) (sI σ 34 (nI (c + 1))) (c + 1) nf := by
  refine Base_same hB (CFr_setI 5 _ _ (by omega)) (MFr_sI (b := 0) (nf := 0) (by omega)) (Nat.le_succ c) (Sm_mk (SmC_setI _ _ _ (by omega)) ((SmM_refl σ).I 34 _ (by omega))) ?_
  obtain ⟨n1, n2, n3, n4, n5, n6⟩ := hB.2.2.2.1
  refine ⟨by omega, by rw [gI_setI, up2_at], by rw [mI_sI, if_pos rfl], ?_, ?_, ?_⟩
  · rw [gI_setI, up2_ne _ _ (by omega), mI_sI, if_neg (by decide)]; exact n4
  · rw [gI_setI, up2_ne _ _ (by omega), mI_sI, if_neg (by decide)]; exact n5
  · rw [mI_sI, if_neg (by decide)]; exact n6
