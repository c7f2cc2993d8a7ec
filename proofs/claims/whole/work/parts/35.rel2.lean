/-! ===== the program: what both sides hold of it ===== -/
/-- by routine and place: the step that the part beginning here ends at; the END of a block (else the place itself); the class's Step -/
abbrev PG : Type := (Nat → Nat → Option Nat) × (Nat → Nat → Nat) × (Nat → Nat → Nat)
def pN (P : PG) : Nat → Nat → Option Nat := P.1
def pE (P : PG) : Nat → Nat → Nat := P.2.1
def pQ (P : PG) : Nat → Nat → Nat := P.2.2
/-- what stands behind part q of a block that ends at e: its END, or a FINALLY part and then its END -/
def WE (wh : Nat → Int32) (nx : Nat → Option Nat) (W : Nat → Nat → Bool → Prop) (c : Bool) (q e : Nat) : Prop :=
  (q = e ∧ wh q = 0 ∧ nx q = none) ∨ (wh q = 3 ∧ q < e ∧ nx q = some e ∧ wh e = 0 ∧ nx e = none ∧ W (q + 1) e c)
/-- the parts of a TRY from part p on, n CATCH parts at most behind it -/
def WP (wh : Nat → Int32) (nx : Nat → Option Nat) (W : Nat → Nat → Bool → Prop) (c : Bool) : Nat → Nat → Nat → Prop
  | 0, p, e => ∃ q : Nat, p < q ∧ nx p = some q ∧ W (p + 1) q (c || decide (wh p = 2)) ∧ WE wh nx W c q e
  | n + 1, p, e => ∃ q : Nat, p < q ∧ nx p = some q ∧ W (p + 1) q (c || decide (wh p = 2)) ∧ (WE wh nx W c q e ∨ (wh q = 2 ∧ WP wh nx W c n q e))
/-- the steps from f up to t are whole: n levels of blocks at most; l: in a LOOP; c: in a CATCH part; k: fuel -/
def WS (wh : Nat → Int32) (nx : Nat → Option Nat) (en : Nat → Nat) : Nat → Nat → Bool → Nat → Nat → Bool → Prop
  | 0, _, _, f, t, _ => f = t
  | k + 1, n, l, f, t, c => f = t ∨ (f < t ∧
      ((¬ isOpn (wh f) ∧ ¬ isPrt (wh f) ∧ en f = f ∧ (wh f = 5 → l = true) ∧ ((wh f = 8 ∨ wh f = 9 ∨ wh f = 10) → c = true) ∧ WS wh nx en k n l (f + 1) t c) ∨
       (∃ e m : Nat, n = m + 1 ∧ f < e ∧ e < t ∧ en f = e ∧ WS wh nx en k n l (e + 1) t c ∧
         ((wh f = 1 ∧ WP wh nx (fun x y z => WS wh nx en k m l x y z) c 3 f e) ∨ (wh f = 11 ∧ nx f = some e ∧ wh e = 0 ∧ WS wh nx en k m l (f + 1) e c) ∨ (wh f = 4 ∧ nx f = some e ∧ wh e = 0 ∧ WS wh nx en k m true (f + 1) e c)))))
/-- routine r: s steps; the class's Steps and the model's rows say the same -/
def PR1 (g : GE) (P : PG) (w : GW) (A : Nat → Nat → Int32) (r s : Nat) : Prop :=
  s ≤ 40 ∧ gI w 323 (aRt g r) = nI s ∧ A 6 r = nI s ∧ gI w 324 (aRt g r) = A 7 r ∧
  (∀ i, i < s → gP w (aSt g r) i = some (pQ P r i) ∧ gOb g w (pQ P r i) 7 ∧ gI w 448 (pQ P r i) = A 0 (40 * r + i) ∧ gI w 449 (pQ P r i) = A 1 (40 * r + i) ∧ gI w 450 (pQ P r i) = A 2 (40 * r + i) ∧ gI w 451 (pQ P r i) = A 3 (40 * r + i) ∧ gI w 452 (pQ P r i) = nI i ∧ gI w 453 (pQ P r i) = nI (40 * r + i) ∧ gI w 454 (pQ P r i) = nI (pE P r i) ∧ gR w 455 (pQ P r i) = (pN P r i).map (pQ P r) ∧ argOK A (40 * r + i)) ∧
  (∀ i j, i < s → pN P r i = some j → j < s ∧ A 5 (40 * r + i) = nI (40 * r + j)) ∧ (∀ i, i < s → pE P r i < s ∧ (¬ pE P r i = i → A 4 (40 * r + i) = nI (40 * r + pE P r i)))
def PR (g : GE) (P : PG) (w : GW) (A : Nat → Nat → Int32) : Prop :=
  ∀ r, r < 4 → ∃ s : Nat, PR1 g P w A r s ∧ (∃ o : Nat, o ≤ 6 ∧ A 7 r = nI o) ∧ (A 7 r = 0 → ∃ k : Nat, WS (fun i => A 0 (40 * r + i)) (pN P r) (pE P r) k 6 false 0 s false)
theorem argOK_same {A A' : Nat → Nat → Int32} {p : Nat} (h0 : A' 0 p = A 0 p) (h1 : A' 1 p = A 1 p) (h2 : A' 2 p = A 2 p) (h3 : A' 3 p = A 3 p) (h : argOK A p) : argOK A' p := by
  unfold argOK at h ⊢
  rw [h0, h1, h2, h3]
  exact h
theorem PR_same {g : GE} {P : PG} {w w' : GW} {A A' : Nat → Nat → Int32} (hS : SK g w) (hC : CFr g w w') (hA : ∀ j i, j ≤ 10 → A' j i = A j i) (h : PR g P w A) : PR g P w' A' := by
  intro r hr
  obtain ⟨s, ⟨h1, h2, h3, h4, h5, h6, h7⟩, h8, h9⟩ := h r hr
  have hrt := (hS.rt hr).1.2.1
  have eI : ∀ c a, a < gN w → 320 ≤ c → c < 500 → c ≠ 387 → gI w' c a = gI w c a := fun c a ha q1 q2 q3 => hC.2.2.2.2.2.2.2.1 c a ha (by omega) (by omega) (by omega) (by omega) (by omega)
  refine ⟨s, ⟨h1, by rw [eI _ _ hrt (by omega) (by omega) (by omega)]; exact h2, by rw [hA _ _ (by omega)]; exact h3, by rw [eI _ _ hrt (by omega) (by omega) (by omega), hA _ _ (by omega)]; exact h4, fun i hi => ?_, fun i j hi hj => ?_, fun i hi => ?_⟩, ?_, fun h0 => ?_⟩
  · obtain ⟨q1, q2, q3, q4, q5, q6, q7, q8, q9, q10, q11⟩ := h5 i hi
    have ha := q2.2.1
    refine ⟨by rw [hC.2.2.2.2.1]; exact q1, hC.ob q2, ?_, ?_, ?_, ?_, ?_, ?_, ?_, ?_, argOK_same (hA _ _ (by omega)) (hA _ _ (by omega)) (hA _ _ (by omega)) (hA _ _ (by omega)) q11⟩
    · rw [eI _ _ ha (by omega) (by omega) (by omega), hA _ _ (by omega)]; exact q3
    · rw [eI _ _ ha (by omega) (by omega) (by omega), hA _ _ (by omega)]; exact q4
    · rw [eI _ _ ha (by omega) (by omega) (by omega), hA _ _ (by omega)]; exact q5
    · rw [eI _ _ ha (by omega) (by omega) (by omega), hA _ _ (by omega)]; exact q6
    · rw [eI _ _ ha (by omega) (by omega) (by omega)]; exact q7
    · rw [eI _ _ ha (by omega) (by omega) (by omega)]; exact q8
    · rw [eI _ _ ha (by omega) (by omega) (by omega)]; exact q9
    · rw [hC.2.2.2.2.2.2.2.2 _ _ ha (by omega)]; exact q10
  · rw [hA _ _ (by omega)]; exact h6 i j hi hj
  · rw [hA _ _ (by omega)]; exact h7 i hi
  · rw [hA _ _ (by omega)]; exact h8
  · rw [hA _ _ (by omega)] at h0
    have e : (fun i => A' 0 (40 * r + i)) = (fun i => A 0 (40 * r + i)) := funext fun i => hA _ _ (by omega)
    rw [e]; exact h9 h0
/-! ===== dials, rows, LOG ===== -/
def dOK (x : UInt64) : Prop := DF x ∧ ¬ fBeyond x
def RelD (g : GE) (w : GW) (σ : MW) : Prop := ∀ j, j < 8 → gD w (eB g + 67) j = mD σ 11 j ∧ dOK (mD σ 11 j)
def RelR1 (g : GE) (w : GW) (σ : MW) (r : Nat) : Prop :=
  (gI w 387 (aRow g r) = -1 ∧ mA σ 12 r = 0) ∨ (∃ n : Nat, n ≤ 16 ∧ gI w 387 (aRow g r) = nI n ∧ mA σ 12 r = 1 ∧ mA σ 13 r = nI n ∧ ∀ i, i < n → gD w (aRd g r) i = mD σ 14 (16 * r + i) ∧ dOK (mD σ 14 (16 * r + i)) ∧ gA w (aRz g r) i = (if r < 16 then 1 else mA σ 15 (16 * r + i)) ∧ (mA σ 15 (16 * r + i) = 0 ∨ mA σ 15 (16 * r + i) = 1))
def RelR (g : GE) (w : GW) (σ : MW) : Prop := ∀ r, r < 18 → RelR1 g w σ r
def RelL (g : GE) (w : GW) (σ : MW) (c : Nat) : Prop := ∃ n : Nat, n ≤ 4 * c ∧ gI w 257 (eB g + 68) = nI n ∧ mI σ 38 = nI n ∧ ∀ i, i < n → gD w (eB g + 69) i = mD σ 26 i ∧ DF (mD σ 26 i)
def DRL (g : GE) (w : GW) (σ : MW) (c : Nat) : Prop := RelD g w σ ∧ RelR g w σ ∧ RelL g w σ c
/-- what the three read is the same -/
def Sm (g : GE) (w w' : GW) (σ σ' : MW) : Prop := gD w' = gD w ∧ gA w' = gA w ∧ (∀ r, r < 18 → gI w' 387 (aRow g r) = gI w 387 (aRow g r)) ∧ gI w' 257 (eB g + 68) = gI w 257 (eB g + 68) ∧ mD σ' = mD σ ∧ (∀ j i, j = 12 ∨ j = 13 ∨ j = 15 → mA σ' j i = mA σ j i) ∧ mI σ' 38 = mI σ 38
theorem DRL_same {g : GE} {w w' : GW} {σ σ' : MW} {c c' : Nat} (hc : c ≤ c') (hs : Sm g w w' σ σ') (h : DRL g w σ c) : DRL g w' σ' c' := by
  obtain ⟨s1, s2, s3, s4, s5, s6, s7⟩ := hs
  obtain ⟨h1, h2, n, h3, h4, h5, h6⟩ := h
  refine ⟨fun j hj => by rw [s1, s5]; exact h1 j hj, fun r hr => ?_, n, by omega, by rw [s4]; exact h4, by rw [s7]; exact h5, fun i hi => by rw [s1, s5]; exact h6 i hi⟩
  unfold RelR1
  rw [s3 r hr, s1, s2, s5, s6 12 r (by omega), s6 13 r (by omega)]
  rcases h2 r hr with q | ⟨m, q1, q2, q3, q4, q5⟩
  · exact Or.inl q
  · exact Or.inr ⟨m, q1, q2, q3, q4, fun i hi => by rw [s6 15 _ (by omega)]; exact q5 i hi⟩
/-- the counters, the faults' number -/
def CNT (g : GE) (w : GW) (σ : MW) (c nf : Nat) : Prop := c ≤ 200 ∧ gI w 5 (eB g + 1) = nI c ∧ mI σ 34 = nI c ∧ gI w 6 (eB g + 1) = mI σ 35 ∧ gI w 7 (eB g + 1) = mI σ 36 ∧ mI σ 22 = nI nf
/-- all that holds while steps are done -/
def Base (g : GE) (P : PG) (w : GW) (σ : MW) (c nf : Nat) : Prop := SK g w ∧ PR g P w (mA σ) ∧ DRL g w σ c ∧ CNT g w σ c nf ∧ (∀ j, j < 12 → mA σ 27 j = aTab j) ∧ eOL g 4 = 12 ∧ (∀ j, j < 12 → eOF g 4 j = aTab j)
/-- Base stays, where dials, rows, LOG do and the program does -/
theorem Base_same {g : GE} {P : PG} {w w' : GW} {σ σ' : MW} {c nf c' nf' b n0 : Nat} (h : Base g P w σ c nf) (hC : CFr g w w') (hM : MFr σ σ' b n0) (hc : c ≤ c') (hs : Sm g w w' σ σ') (hn : CNT g w' σ' c' nf') : Base g P w' σ' c' nf' :=
  ⟨hC.sk h.1, PR_same h.1 hC hM.1 h.2.1, DRL_same hc hs h.2.2.1, hn, fun j hj => by rw [hM.2.1]; exact h.2.2.2.2.1 j hj, h.2.2.2.2.2⟩
/-! ===== where a step is begun, and how steps are left ===== -/
/-- in a CATCH part: the fault that it caught -/
def Cau (g : GE) (w : GW) (σ : MW) (o nf : Nat) (cau : Option Nat) (cc : Bool) : Prop := cc = true → ∃ cf φ tc : Nat, cau = some cf ∧ FR g w (mA σ) nf cf φ ∧ topC σ (o + 1) tc ∧ mA σ 24 tc = nI φ
def At (g : GE) (w : GW) (σ : MW) (r i o tr cl : Nat) : Prop := mI σ 29 = nI (o + 1) ∧ topR σ (o + 1) tr r ∧ mI σ 33 = nI cl ∧ mI σ 31 = 0 ∧ mI σ 30 = nI (40 * r + i) ∧ gR w 8 (eB g + 1) = none
def Cap (c nf h : Nat) : Prop := (c < 200 → nf + 200 + 3 * h + 1 ≤ 600 + c) ∧ (c = 200 → nf + 1 ≤ 600)
def Bnd (c nf b c' nf' k : Nat) : Prop := c ≤ c' ∧ nf ≤ nf' ∧ k + 4 * c + 4 * nf ≤ 4 * c' + 4 * nf' ∧ (c' < 200 → nf' + c ≤ nf + c') ∧ (c < 200 → nf' + c ≤ nf + c' + b) ∧ (c = 200 → nf' ≤ nf + 1)
def Out (g : GE) (w : GW) (σ : MW) (r t : Nat) (l : Bool) (nf : Nat) (v : Int32) : Prop :=
  (v = 0 ∧ mI σ 31 = 0 ∧ mI σ 30 = nI (40 * r + t) ∧ gR w 8 (eB g + 1) = none) ∨ (v = 1 ∧ mI σ 31 = 1 ∧ l = true ∧ gR w 8 (eB g + 1) = none) ∨ (v = 2 ∧ mI σ 31 = 2 ∧ gR w 8 (eB g + 1) = none) ∨ (v = 3 ∧ mI σ 31 = 3 ∧ ∃ f φ : Nat, gR w 8 (eB g + 1) = some f ∧ mI σ 32 = nI φ ∧ FR g w (mA σ) nf f φ)
def Res (g : GE) (P : PG) (d2 : Nat) (w : GW) (σ : MW) (r t : Nat) (l : Bool) (o cl c nf b : Nat) (v : Int32) (w' : GW) : Prop :=
  ∃ (σ' : MW) (c' nf' k : Nat), MS g d2 k σ σ' ∧ Base g P w' σ' c' nf' ∧ CFr g w w' ∧ MFr σ σ' (o + 1) nf ∧ Bnd c nf b c' nf' k ∧ gN w' + nf = gN w + nf' ∧ mI σ' 29 = nI (o + 1) ∧ mI σ' 33 = nI cl ∧ Out g w' σ' r t l nf' v
/-- a whole stretch of steps is done alike -/
def Sim (g : GE) (P : PG) (d2 n cl h : Nat) : Prop := ∀ (d k r s f t o tr c nf : Nat) (l cc : Bool) (w : GW) (σ : MW) (cau : Option Nat), 5 * h + 10 ≤ d → r < 4 → Base g P w σ c nf → PR1 g P w (mA σ) r s → t ≤ s → f ≤ t → WS (fun i => mA σ 0 (40 * r + i)) (pN P r) (pE P r) k n l f t cc → At g w σ r f o tr cl → Cau g w σ o nf cau cc → Cap c nf h → o + h ≤ 50 → gMI g d mX0_doSteps [.ref (eB g + 1), .ref (aRt g r), .int (nI f), .int (nI t), va_rf cau, .int (nI cl)] w (Res g P d2 w σ r t l o cl c nf (3 * h + 1))
theorem topR_same {σ σ' : MW} {b nf o t r : Nat} (h : MFr σ σ' b nf) (hb : o ≤ b) (ht : topR σ o t r) : topR σ' o t r := by
  obtain ⟨h1, h2, h3, h4, h5⟩ := ht
  have e := h.2.2.1
  exact ⟨h1, by rw [e _ _ (by omega) (by omega) (by omega)]; exact h2, fun j q1 q2 => by rw [e _ _ (by omega) (by omega) (by omega)]; exact h3 j q1 q2, by rw [e _ _ (by omega) (by omega) (by omega)]; exact h4, h5⟩
theorem topC_same {σ σ' : MW} {b nf o t : Nat} (h : MFr σ σ' b nf) (hb : o ≤ b) (ht : topC σ o t) : topC σ' o t := by
  obtain ⟨h1, h2, h3⟩ := ht
  have e := h.2.2.1
  exact ⟨h1, by rw [e _ _ (by omega) (by omega) (by omega)]; exact h2, fun j q1 q2 => by rw [e _ _ (by omega) (by omega) (by omega)]; exact h3 j q1 q2⟩
theorem Cau_same {g : GE} {w w' : GW} {σ σ' : MW} {b o nf nf' : Nat} {cau : Option Nat} {cc : Bool} (hM : MFr σ σ' b nf) (hb : o + 1 ≤ b) (hC : CFr g w w') (hN : nf ≤ 600) (hn : nf ≤ nf') (h : Cau g w σ o nf cau cc) : Cau g w' σ' o nf' cau cc := by
  intro q
  obtain ⟨cf, φ, tc, h1, h2, h3, h4⟩ := h q
  exact ⟨cf, φ, tc, h1, FR_same hN hn hM.2.2.2.1 hC h2, topC_same hM hb h3, by rw [hM.2.2.1 _ _ (by omega) (by omega) (by have := h3.1; omega)]; exact h4⟩
