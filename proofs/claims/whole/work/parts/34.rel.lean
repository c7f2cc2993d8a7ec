/-! ===== what a run of the class may change ===== -/
def CFr (g : GE) (w w' : GW) : Prop :=
  gN w ≤ gN w' ∧ gU w' + 6 * gN w = gU w + 6 * gN w' ∧ (∀ a, a < gN w → gK w' a = gK w a) ∧ gL w' = gL w ∧ gP w' = gP w ∧
  (∀ a i, (∀ r, r < 18 → a ≠ aRz g r) → gA w' a i = gA w a i) ∧
  (∀ a i, a ≠ eB g + 67 → a ≠ eB g + 69 → (∀ r, r < 18 → a ≠ aRd g r) → gD w' a i = gD w a i) ∧
  (∀ c a, a < gN w → c ≠ 5 → c ≠ 6 → c ≠ 7 → c ≠ 257 → c ≠ 387 → gI w' c a = gI w c a) ∧
  (∀ c a, a < gN w → c ≠ 8 → gR w' c a = gR w c a)
theorem CFr_refl (g : GE) (w : GW) : CFr g w w := ⟨Nat.le_refl _, rfl, fun _ _ => rfl, rfl, rfl, fun _ _ _ => rfl, fun _ _ _ _ _ => rfl, fun _ _ _ _ _ _ _ _ => rfl, fun _ _ _ _ => rfl⟩
theorem CFr.thn {g : GE} {w w1 w2 : GW} (h : CFr g w w1) (k : CFr g w1 w2) : CFr g w w2 := by
  obtain ⟨a1, a2, a3, a4, a5, a6, a7, a8, a9⟩ := h
  obtain ⟨b1, b2, b3, b4, b5, b6, b7, b8, b9⟩ := k
  refine ⟨by omega, by omega, fun a ha => ?_, ?_, ?_, fun a i h => ?_, fun a i h1 h2 h3 => ?_, fun c a ha h1 h2 h3 h4 h5 => ?_, fun c a ha h => ?_⟩
  · rw [b3 a (by omega), a3 a ha]
  · rw [b4, a4]
  · rw [b5, a5]
  · rw [b6 a i h, a6 a i h]
  · rw [b7 a i h1 h2 h3, a7 a i h1 h2 h3]
  · rw [b8 c a (by omega) h1 h2 h3 h4 h5, a8 c a ha h1 h2 h3 h4 h5]
  · rw [b9 c a (by omega) h, a9 c a ha h]
theorem CFr_setI {g : GE} {w : GW} (c a : Nat) (x : Int32) (hc : c = 5 ∨ c = 6 ∨ c = 7 ∨ c = 257 ∨ c = 387) : CFr g w (setI w c a x) :=
  ⟨Nat.le_refl _, rfl, fun _ _ => rfl, rfl, rfl, fun _ _ _ => rfl, fun _ _ _ _ _ => rfl, fun c' a' _ h1 h2 h3 h4 h5 => by rw [gI_setI, up2_ne _ _ (by omega)], fun _ _ _ _ => rfl⟩
theorem CFr_setR {g : GE} {w : GW} (a : Nat) (x : Option Nat) : CFr g w (setR w 8 a x) :=
  ⟨Nat.le_refl _, rfl, fun _ _ => rfl, rfl, rfl, fun _ _ _ => rfl, fun _ _ _ _ _ => rfl, fun _ _ _ _ _ _ _ _ => rfl, fun c' a' _ h => by rw [gR_setR, up2_ne _ _ (by omega)]⟩
theorem CFr_setD {g : GE} {w : GW} (a i : Nat) (x : UInt64) (ha : a = eB g + 67 ∨ a = eB g + 69 ∨ ∃ r, r < 18 ∧ a = aRd g r) : CFr g w (setD w a i x) :=
  ⟨Nat.le_refl _, rfl, fun _ _ => rfl, rfl, rfl, fun _ _ _ => rfl, fun a' i' h1 h2 h3 => by
    rw [gD_setD, up2_ne]
    rintro ⟨rfl, -⟩
    rcases ha with q | q | ⟨r, hr, q⟩
    · exact h1 q
    · exact h2 q
    · exact h3 r hr q, fun _ _ _ _ _ _ _ _ => rfl, fun _ _ _ _ => rfl⟩
theorem CFr_setA {g : GE} {w : GW} (r i : Nat) (x : Int32) (hr : r < 18) : CFr g w (setA w (aRz g r) i x) :=
  ⟨Nat.le_refl _, rfl, fun _ _ => rfl, rfl, rfl, fun a' i' h => by
    rw [gA_setA, up2_ne]
    rintro ⟨rfl, -⟩
    exact h r hr rfl, fun _ _ _ _ _ => rfl, fun _ _ _ _ _ _ _ _ => rfl, fun _ _ _ _ => rfl⟩
theorem CFr_newF {g : GE} {w : GW} : CFr g w (newO w 3 6) := by
  refine ⟨Nat.le_succ _, by rw [gU_newO, gN_newO]; omega, fun a ha => ?_, rfl, rfl, fun _ _ _ => rfl, fun _ _ _ _ _ => rfl, fun c a ha _ _ _ _ _ => ?_, fun c a ha _ => ?_⟩
  · rw [gK_newO, va_up_ne _ _ (Nat.ne_of_lt ha)]
  · rw [gI_newO, nul2, if_neg (Nat.ne_of_lt ha)]
  · rw [gR_newO, nul2, if_neg (Nat.ne_of_lt ha)]
theorem gI_setF {w : GW} {a : Nat} {k p n e f t : Int32} {c b : Nat} (h : ¬ b = a) : gI (setF w a k p n e f t) c b = gI w c b := by
  unfold setF
  rw [gI_setI, up2_ne _ _ (fun q => h q.2), gI_setI, up2_ne _ _ (fun q => h q.2), gI_setI, up2_ne _ _ (fun q => h q.2), gI_setI, up2_ne _ _ (fun q => h q.2), gI_setI, up2_ne _ _ (fun q => h q.2), gI_setI, up2_ne _ _ (fun q => h q.2)]
theorem CFr_thrF {g : GE} {w : GW} {k p n e f t : Int32} : CFr g w (thrF g w k p n e f t) := by
  refine CFr.thn (w1 := setF (newO w 3 6) (gN w) k p n e f t) ?_ (CFr_setR _ _)
  have h := CFr_newF (g := g) (w := w)
  obtain ⟨a1, a2, a3, a4, a5, a6, a7, a8, a9⟩ := h
  refine ⟨a1, a2, a3, a4, a5, a6, a7, fun c a ha h1 h2 h3 h4 h5 => ?_, a9⟩
  rw [gI_setF (Nat.ne_of_lt ha)]
  exact a8 c a ha h1 h2 h3 h4 h5
theorem gI_thrF_old {g : GE} {w : GW} {k p n e f t : Int32} {c a : Nat} (ha : a < gN w) : gI (thrF g w k p n e f t) c a = gI w c a := by
  unfold thrF
  rw [gI_setR, gI_setF (Nat.ne_of_lt ha), gI_newO, nul2, if_neg (Nat.ne_of_lt ha)]
theorem gR_thrF {g : GE} {w : GW} {k p n e f t : Int32} : gR (thrF g w k p n e f t) 8 (eB g + 1) = some (gN w) := by
  show up2 _ 8 (eB g + 1) (some (gN w)) 8 (eB g + 1) = _
  rw [up2_at]
theorem gN_thrF {g : GE} {w : GW} {k p n e f t : Int32} : gN (thrF g w k p n e f t) = gN w + 1 := rfl
theorem gI_thrF_0 {g : GE} {w : GW} {k p n e f t : Int32} : gI (thrF g w k p n e f t) 192 (gN w) = k := by
  unfold thrF setF
  rw [gI_setR, gI_setI, up2_ne _ _ (by omega), gI_setI, up2_ne _ _ (by omega), gI_setI, up2_ne _ _ (by omega), gI_setI, up2_ne _ _ (by omega), gI_setI, up2_ne _ _ (by omega), gI_setI, up2_at]
theorem gI_thrF_1 {g : GE} {w : GW} {k p n e f t : Int32} : gI (thrF g w k p n e f t) 193 (gN w) = p := by
  unfold thrF setF
  rw [gI_setR, gI_setI, up2_ne _ _ (by omega), gI_setI, up2_ne _ _ (by omega), gI_setI, up2_ne _ _ (by omega), gI_setI, up2_ne _ _ (by omega), gI_setI, up2_at]
theorem gI_thrF_2 {g : GE} {w : GW} {k p n e f t : Int32} : gI (thrF g w k p n e f t) 194 (gN w) = n := by
  unfold thrF setF
  rw [gI_setR, gI_setI, up2_ne _ _ (by omega), gI_setI, up2_ne _ _ (by omega), gI_setI, up2_ne _ _ (by omega), gI_setI, up2_at]
theorem gI_thrF_3 {g : GE} {w : GW} {k p n e f t : Int32} : gI (thrF g w k p n e f t) 195 (gN w) = e := by
  unfold thrF setF
  rw [gI_setR, gI_setI, up2_ne _ _ (by omega), gI_setI, up2_ne _ _ (by omega), gI_setI, up2_at]
theorem gI_thrF_4 {g : GE} {w : GW} {k p n e f t : Int32} : gI (thrF g w k p n e f t) 196 (gN w) = f := by
  unfold thrF setF
  rw [gI_setR, gI_setI, up2_ne _ _ (by omega), gI_setI, up2_at]
theorem gI_thrF_5 {g : GE} {w : GW} {k p n e f t : Int32} : gI (thrF g w k p n e f t) 197 (gN w) = t := by
  unfold thrF setF
  rw [gI_setR, gI_setI, up2_at]
theorem gI_thrF_new {g : GE} {w : GW} {k p n e f t : Int32} : gI (thrF g w k p n e f t) 192 (gN w) = k ∧ gI (thrF g w k p n e f t) 193 (gN w) = p ∧ gI (thrF g w k p n e f t) 194 (gN w) = n ∧ gI (thrF g w k p n e f t) 195 (gN w) = e ∧ gI (thrF g w k p n e f t) 196 (gN w) = f ∧ gI (thrF g w k p n e f t) 197 (gN w) = t := ⟨gI_thrF_0, gI_thrF_1, gI_thrF_2, gI_thrF_3, gI_thrF_4, gI_thrF_5⟩
theorem CFr.ob {g : GE} {w w' : GW} (h : CFr g w w') {a k : Nat} (ha : gOb g w a k) : gOb g w' a k :=
  ⟨ha.1, Nat.lt_of_lt_of_le ha.2.1 h.1, by rw [h.2.2.1 a ha.2.1]; exact ha.2.2⟩
theorem CFr.sk {g : GE} {w w' : GW} (h : CFr g w w') (hS : SK g w) : SK g w' := by
  obtain ⟨a1, a2, a3, a4, a5, a6, a7, a8, a9⟩ := h
  obtain ⟨s1, s2, s3, s4, s5, s6⟩ := hS
  refine ⟨by omega, fun i k hi => ?_, fun i n hi hk => ?_, fun e he => ?_, fun e he => ?_, fun e he => ?_⟩
  · have : i < 99 := by rw [← kTab_len]; exact (List.getElem?_eq_some_iff.mp hi).1
    rw [a3 _ (by omega)]; exact s2 i k hi
  · rw [a4]; exact s3 i n hi hk
  · have h1 : e.2.1 < 99 ∧ e.1 ≠ 8 := by
      have : ∀ e ∈ rTab, e.2.1 < 99 ∧ e.1 ≠ 8 := by decide +kernel
      exact this e he
    rw [a9 _ _ (by omega) h1.2]; exact s4 e he
  · rw [a5]; exact s5 e he
  · have h1 : e.2.1 < 99 ∧ (e.1 = 320 ∨ e.1 = 384) := by
      have : ∀ e ∈ iTab, e.2.1 < 99 ∧ (e.1 = 320 ∨ e.1 = 384) := by decide +kernel
      exact this e he
    rw [a8 _ _ (by omega) (by omega) (by omega) (by omega) (by omega) (by omega)]; exact s6 e he
/-! ===== what a run of the model may change: b frames of its stack and nf faults stay as they are ===== -/
def MFr (σ σ' : MW) (b nf : Nat) : Prop :=
  (∀ j i, j ≤ 10 → mA σ' j i = mA σ j i) ∧ (∀ i, mA σ' 27 i = mA σ 27 i) ∧ (∀ j i, 21 ≤ j → j ≤ 25 → i < b → mA σ' j i = mA σ j i) ∧
  (∀ j i, 16 ≤ j → j ≤ 20 → i < nf → mA σ' j i = mA σ j i) ∧ mI σ' 11 = mI σ 11 ∧ mI σ' 23 = mI σ 23
theorem MFr_refl (σ : MW) (b nf : Nat) : MFr σ σ b nf := ⟨fun _ _ _ => rfl, fun _ => rfl, fun _ _ _ _ _ => rfl, fun _ _ _ _ _ => rfl, rfl, rfl⟩
theorem MFr.thn {σ σ1 σ2 : MW} {b nf b1 nf1 : Nat} (h : MFr σ σ1 b nf) (k : MFr σ1 σ2 b1 nf1) (hb : b ≤ b1) (hn : nf ≤ nf1) : MFr σ σ2 b nf := by
  obtain ⟨a1, a2, a3, a4, a5, a6⟩ := h
  obtain ⟨b1, b2, b3, b4, b5, b6⟩ := k
  exact ⟨fun j i h => by rw [b1 j i h, a1 j i h], fun i => by rw [b2, a2], fun j i h1 h2 h3 => by rw [b3 j i h1 h2 (by omega), a3 j i h1 h2 h3], fun j i h1 h2 h3 => by rw [b4 j i h1 h2 (by omega), a4 j i h1 h2 h3], by rw [b5, a5], by rw [b6, a6]⟩
theorem MFr.less {σ σ1 : MW} {b nf b1 nf1 : Nat} (h : MFr σ σ1 b1 nf1) (hb : b ≤ b1) (hn : nf ≤ nf1) : MFr σ σ1 b nf := MFr.thn (MFr_refl σ b nf) h hb hn
theorem MFr_sI {σ : MW} {b nf f : Nat} {x : Int32} (h : f ≠ 11 ∧ f ≠ 23) : MFr σ (sI σ f x) b nf :=
  ⟨fun _ _ _ => rfl, fun _ => rfl, fun _ _ _ _ _ => rfl, fun _ _ _ _ _ => rfl, by rw [mI_sI, if_neg (by omega)], by rw [mI_sI, if_neg (by omega)]⟩
theorem MFr_sD {σ : MW} {b nf j i : Nat} {x : UInt64} : MFr σ (sD σ j i x) b nf :=
  ⟨fun _ _ _ => rfl, fun _ => rfl, fun _ _ _ _ _ => rfl, fun _ _ _ _ _ => rfl, rfl, rfl⟩
theorem MFr_sA {σ : MW} {b nf j i : Nat} {x : Int32} (h : (21 ≤ j ∧ j ≤ 25 ∧ b ≤ i) ∨ (16 ≤ j ∧ j ≤ 20 ∧ nf ≤ i) ∨ j = 12 ∨ j = 13 ∨ j = 15) : MFr σ (sA σ j i x) b nf :=
  ⟨fun _ _ _ => by rw [mA_sA, if_neg (by omega)], fun _ => by rw [mA_sA, if_neg (by omega)], fun _ _ _ _ _ => by rw [mA_sA, if_neg (by omega)], fun _ _ _ _ _ => by rw [mA_sA, if_neg (by omega)], rfl, rfl⟩
theorem MFr.I {σ τ : MW} {b nf : Nat} (f : Nat) (x : Int32) (h : MFr σ τ b nf) (hf : f ≠ 11 ∧ f ≠ 23) : MFr σ (sI τ f x) b nf := h.thn (MFr_sI hf) (Nat.le_refl b) (Nat.le_refl nf)
theorem MFr.D {σ τ : MW} {b nf : Nat} (j i : Nat) (x : UInt64) (h : MFr σ τ b nf) : MFr σ (sD τ j i x) b nf := h.thn (MFr_sD (b := b) (nf := nf)) (Nat.le_refl b) (Nat.le_refl nf)
theorem MFr.A {σ τ : MW} {b nf : Nat} (j i : Nat) (x : Int32) (h : MFr σ τ b nf) (hf : (21 ≤ j ∧ j ≤ 25 ∧ b ≤ i) ∨ (16 ≤ j ∧ j ≤ 20 ∧ nf ≤ i) ∨ j = 12 ∨ j = 13 ∨ j = 15) : MFr σ (sA τ j i x) b nf := h.thn (MFr_sA hf) (Nat.le_refl b) (Nat.le_refl nf)
theorem MFr_push {σ : MW} {b nf o : Nat} {k s l : Int32} (h : b ≤ o) : MFr σ (mPush σ o k s l) b nf :=
  (((((((MFr_refl σ b nf).A 21 o k (by omega)).A 22 o s (by omega)).A 23 o l (by omega)).A 24 o (-1) (by omega)).A 25 o 0 (by omega)).I 29 _ (by omega))
theorem MFr_throw {σ : MW} {b nf n : Nat} {k p nu be em : Int32} (h : nf ≤ n) : MFr σ (mThrow σ n k p nu be em) b nf :=
  ((((((((MFr_refl σ b nf).A 16 n k (by omega)).A 17 n p (by omega)).A 18 n nu (by omega)).A 19 n be (by omega)).A 20 n em (by omega)).I 32 _ (by omega)).I 31 _ (by omega)).I 22 _ (by omega)
/-! ===== a fault of the class and one of the model ===== -/
def FR (g : GE) (w : GW) (A : Nat → Nat → Int32) (nf f φ : Nat) : Prop :=
  gOb g w f 3 ∧ ∃ kd m : Nat, 1 ≤ kd ∧ kd < 12 ∧ m ≤ 5 ∧ gI w 192 f = nI kd ∧ A 16 φ = nI kd ∧ gI w 193 f = A 17 φ ∧ gI w 194 f = A 18 φ ∧ gI w 195 f = nI m ∧ A 20 φ = nI m ∧ mChain A nf φ m ∧ gI w 196 f = A 17 (mDown A φ m) ∧ gI w 197 f = mWt A φ 0 m
theorem mDown_same {A A' : Nat → Nat → Int32} {nf φ m : Nat} (hN : nf ≤ 600) (h : ∀ j i, 16 ≤ j → j ≤ 20 → i < nf → A' j i = A j i) (hc : mChain A nf φ m) : ∀ j, j ≤ m → mDown A' φ j = mDown A φ j
  | 0, _ => rfl
  | j + 1, hj => by
    show (A' 19 (mDown A' φ j)).toNatClampNeg = (A 19 (mDown A φ j)).toNatClampNeg
    rw [mDown_same hN h hc j (by omega), h 19 _ (by omega) (by omega) (hc.lt hN j (by omega))]
theorem mWt_same {A A' : Nat → Nat → Int32} {nf φ m : Nat} (hN : nf ≤ 600) (h : ∀ j i, 16 ≤ j → j ≤ 20 → i < nf → A' j i = A j i) (hc : mChain A nf φ m) : ∀ i n, n + i ≤ m → mWt A' φ n i = mWt A φ n i
  | 0, n, hn => by
    show fWeight (A' 16 (mDown A' φ n)) (A' 18 (mDown A' φ n)) 1 = fWeight (A 16 (mDown A φ n)) (A 18 (mDown A φ n)) 1
    rw [mDown_same hN h hc n (by omega), h 16 _ (by omega) (by omega) (hc.lt hN n (by omega)), h 18 _ (by omega) (by omega) (hc.lt hN n (by omega))]
  | i + 1, n, hn => by
    show fWeight (A' 16 (mDown A' φ n)) (A' 18 (mDown A' φ n)) (1 + mWt A' φ (n + 1) i) = fWeight (A 16 (mDown A φ n)) (A 18 (mDown A φ n)) (1 + mWt A φ (n + 1) i)
    rw [mDown_same hN h hc n (by omega), h 16 _ (by omega) (by omega) (hc.lt hN n (by omega)), h 18 _ (by omega) (by omega) (hc.lt hN n (by omega)), mWt_same hN h hc i (n + 1) (by omega)]
theorem mChain_same {A A' : Nat → Nat → Int32} {nf nf' φ m : Nat} (hN : nf ≤ 600) (hn : nf ≤ nf') (h : ∀ j i, 16 ≤ j → j ≤ 20 → i < nf → A' j i = A j i) (hc : mChain A nf φ m) : mChain A' nf' φ m := by
  refine ⟨by have := hc.1; omega, fun j hj => ?_⟩
  obtain ⟨p, hp, e⟩ := hc.2 j hj
  refine ⟨p, by omega, ?_⟩
  rw [mDown_same hN h hc j (by omega), h 19 _ (by omega) (by omega) (hc.lt hN j (by omega))]
  exact e
theorem FR_same {g : GE} {w w' : GW} {A A' : Nat → Nat → Int32} {nf nf' f φ : Nat} (hN : nf ≤ 600) (hn : nf ≤ nf') (hA : ∀ j i, 16 ≤ j → j ≤ 20 → i < nf → A' j i = A j i) (hC : CFr g w w') (h : FR g w A nf f φ) : FR g w' A' nf' f φ := by
  obtain ⟨ho, kd, m, h1, h2, h3, h4, h5, h6, h7, h8, h9, hc, h10, h11⟩ := h
  have e : ∀ c, c = 192 ∨ c = 193 ∨ c = 194 ∨ c = 195 ∨ c = 196 ∨ c = 197 → gI w' c f = gI w c f := fun c q => hC.2.2.2.2.2.2.2.1 c f ho.2.1 (by omega) (by omega) (by omega) (by omega) (by omega)
  have hφ : φ < nf := hc.1
  refine ⟨hC.ob ho, kd, m, h1, h2, h3, by rw [e _ (by omega)]; exact h4, by rw [hA _ _ (by omega) (by omega) hφ]; exact h5, ?_, ?_, by rw [e _ (by omega)]; exact h8, by rw [hA _ _ (by omega) (by omega) hφ]; exact h9, mChain_same hN hn hA hc, ?_, ?_⟩
  · rw [e _ (by omega), hA _ _ (by omega) (by omega) hφ]; exact h6
  · rw [e _ (by omega), hA _ _ (by omega) (by omega) hφ]; exact h7
  · rw [e _ (by omega), mDown_same hN hA hc m (Nat.le_refl m), hA _ _ (by omega) (by omega) (hc.lt hN m (Nat.le_refl m))]; exact h10
  · rw [e _ (by omega), mWt_same hN hA hc m 0 (by omega)]; exact h11
theorem mDown_shift {A : Nat → Nat → Int32} {n φ : Nat} (h : A 19 n = nI φ) (hφ : φ < 2 ^ 31) : ∀ j, mDown A n (j + 1) = mDown A φ j
  | 0 => by show (A 19 n).toNatClampNeg = φ; rw [h, nI_clamp hφ]
  | j + 1 => by show (A 19 (mDown A n (j + 1))).toNatClampNeg = (A 19 (mDown A φ j)).toNatClampNeg; rw [mDown_shift h hφ j]
theorem mWt_shift {A : Nat → Nat → Int32} {n φ : Nat} (h : A 19 n = nI φ) (hφ : φ < 2 ^ 31) : ∀ i j, mWt A n (j + 1) i = mWt A φ j i
  | 0, j => by show fWeight (A 16 (mDown A n (j + 1))) (A 18 (mDown A n (j + 1))) 1 = fWeight (A 16 (mDown A φ j)) (A 18 (mDown A φ j)) 1; rw [mDown_shift h hφ j]
  | i + 1, j => by show fWeight (A 16 (mDown A n (j + 1))) (A 18 (mDown A n (j + 1))) (1 + mWt A n (j + 1 + 1) i) = fWeight (A 16 (mDown A φ j)) (A 18 (mDown A φ j)) (1 + mWt A φ (j + 1) i); rw [mDown_shift h hφ j, mWt_shift h hφ i (j + 1)]
theorem mThrow_at (σ : MW) (n : Nat) (kd pl nu be em : Int32) : mA (mThrow σ n kd pl nu be em) 16 n = kd ∧ mA (mThrow σ n kd pl nu be em) 17 n = pl ∧ mA (mThrow σ n kd pl nu be em) 18 n = nu ∧ mA (mThrow σ n kd pl nu be em) 19 n = be ∧ mA (mThrow σ n kd pl nu be em) 20 n = em := by
  refine ⟨?_, ?_, ?_, ?_, ?_⟩ <;> simp [mThrow, mA_sI, mA_sA]
/-- a new fault, thrown on both sides -/
theorem FR_new {g : GE} {w : GW} {σ : MW} {nf kd : Nat} {pl nu : Int32} (hS : SK g w) (h1 : 1 ≤ kd) (h2 : kd < 12) : FR g (thrF g w (nI kd) pl nu 0 pl (fWeight (nI kd) nu 1)) (mA (mThrow σ nf (nI kd) pl nu (-1) 0)) (nf + 1) (gN w) nf := by
  obtain ⟨a1, a2, a3, a4, a5⟩ := mThrow_at σ nf (nI kd) pl nu (-1) 0
  obtain ⟨b1, b2, b3, b4, b5, b6⟩ := gI_thrF_new (g := g) (w := w) (k := nI kd) (p := pl) (n := nu) (e := 0) (f := pl) (t := fWeight (nI kd) nu 1)
  have hg : eB g ≤ gN w := by have := hS.1; omega
  refine ⟨gOb_selfO hg, kd, 0, h1, h2, by omega, b1, a1, by rw [b2, a2], by rw [b3, a3], b4, a5, ⟨Nat.lt_succ_self _, fun j hj => absurd hj (by omega)⟩, by rw [b5]; exact a2.symm, ?_⟩
  rw [b6]
  show _ = fWeight (mA (mThrow σ nf (nI kd) pl nu (-1) 0) 16 nf) (mA (mThrow σ nf (nI kd) pl nu (-1) 0) 18 nf) 1
  rw [a1, a3]
theorem FR_wrap {g : GE} {w : GW} {σ : MW} {nf f φ : Nat} {pl nu : Int32} (hS : SK g w) (hN : nf < 600) (hm : ¬ mA σ 20 φ = 5) (h : FR g w (mA σ) nf f φ) : FR g (thrF g w 11 pl nu (gI w 195 f + 1) (gI w 196 f) (fWeight 11 nu (1 + gI w 197 f))) (mA (mThrow σ nf 11 pl nu (nI φ) (mA σ 20 φ + 1))) (nf + 1) (gN w) nf := by
  obtain ⟨ho, kd, m, h1, h2, h3, h4, h5, h6, h7, h8, h9, hc, h10, h11⟩ := h
  obtain ⟨a1, a2, a3, a4, a5⟩ := mThrow_at σ nf 11 pl nu (nI φ) (mA σ 20 φ + 1)
  have hM : MFr σ (mThrow σ nf 11 pl nu (nI φ) (mA σ 20 φ + 1)) 0 nf := MFr_throw (Nat.le_refl nf)
  generalize mThrow σ nf 11 pl nu (nI φ) (mA σ 20 φ + 1) = τ at *
  obtain ⟨b1, b2, b3, b4, b5, b6⟩ := gI_thrF_new (g := g) (w := w) (k := 11) (p := pl) (n := nu) (e := gI w 195 f + 1) (f := gI w 196 f) (t := fWeight 11 nu (1 + gI w 197 f))
  have hg : eB g ≤ gN w := by have := hS.1; omega
  have hA : ∀ j i, 16 ≤ j → j ≤ 20 → i < nf → mA τ j i = mA σ j i := hM.2.2.2.1
  have hφ : φ < nf := hc.1
  have hc' := mChain_same (Nat.le_of_lt hN) (Nat.le_succ nf) hA hc
  have hm5 : m ≤ 4 := by
    rcases Nat.lt_or_ge m 5 with q | q
    · omega
    · exact absurd (by rw [h9, show m = 5 by omega]; rfl) hm
  refine ⟨gOb_selfO hg, 11, m + 1, by omega, by omega, by omega, b1, a1, by rw [b2, a2], by rw [b3, a3], by rw [b4, h8]; exact nI_1 m, by rw [a5, h9]; exact nI_1 m, ⟨Nat.lt_succ_self _, fun j hj => ?_⟩, ?_, ?_⟩
  · cases j with
    | zero => exact ⟨φ, by omega, a4⟩
    | succ j =>
      rw [mDown_shift a4 (by omega) j]
      exact hc'.2 j (by omega)
  · rw [b5, mDown_shift a4 (by omega) m, mDown_same (Nat.le_of_lt hN) hA hc m (Nat.le_refl m), hA _ _ (by omega) (by omega) (hc.lt (Nat.le_of_lt hN) m (Nat.le_refl m))]; exact h10
  · rw [b6]
    show _ = fWeight (mA τ 16 nf) (mA τ 18 nf) (1 + mWt (mA τ) nf 1 m)
    rw [a1, a3, mWt_shift a4 (by omega) m 0, mWt_same (Nat.le_of_lt hN) hA hc m 0 (by omega), h11]
