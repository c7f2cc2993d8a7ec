/-! ===== the model's own state, apart from the rest of the world ===== -/
abbrev MW : Type := (Nat → Int32) × (Nat → Nat → Int32) × (Nat → Nat → UInt64)
/-- its int fields: 11 atHand, 22 faultCount, 23 thrown, 29 open, 30 at, 31 way, 32 fault, 33 calls, 34 counted, 35 caughtMany, 36 lastMany, 38 logged -/
def mI (σ : MW) : Nat → Int32 := σ.1
/-- its int arrays: 0 whats 1 as 2 bs 3 cs 4 ends 5 nexts 6 sizes 7 depths 8 openSteps 9 openParts 10 openCatches 12 isThere 13 lengths 15 fitted 16 faultKinds 17 faultPlaces 18 faultNumbers 19 earlier 20 earlierMany 21 kinds 22 steps 23 lefts 24 faults 25 ways 27 above -/
def mA (σ : MW) : Nat → Nat → Int32 := σ.2.1
/-- its double arrays: 11 dials 14 places 26 log -/
def mD (σ : MW) : Nat → Nat → UInt64 := σ.2.2
def sI (σ : MW) (f : Nat) (x : Int32) : MW := (va_up σ.1 f x, σ.2)
def sA (σ : MW) (j i : Nat) (x : Int32) : MW := (σ.1, up2 σ.2.1 j i x, σ.2.2)
def sD (σ : MW) (j i : Nat) (x : UInt64) : MW := (σ.1, σ.2.1, up2 σ.2.2 j i x)
theorem mI_sI (σ : MW) (f : Nat) (x : Int32) (k : Nat) : mI (sI σ f x) k = if k = f then x else mI σ k := rfl
theorem mA_sI (σ : MW) (f : Nat) (x : Int32) : mA (sI σ f x) = mA σ := rfl
theorem mD_sI (σ : MW) (f : Nat) (x : Int32) : mD (sI σ f x) = mD σ := rfl
theorem mI_sA (σ : MW) (j i : Nat) (x : Int32) : mI (sA σ j i x) = mI σ := rfl
theorem mA_sA (σ : MW) (j i : Nat) (x : Int32) (a b : Nat) : mA (sA σ j i x) a b = if a = j ∧ b = i then x else mA σ a b := rfl
theorem mD_sA (σ : MW) (j i : Nat) (x : Int32) : mD (sA σ j i x) = mD σ := rfl
theorem mI_sD (σ : MW) (j i : Nat) (x : UInt64) : mI (sD σ j i x) = mI σ := rfl
theorem mA_sD (σ : MW) (j i : Nat) (x : UInt64) : mA (sD σ j i x) = mA σ := rfl
theorem mD_sD (σ : MW) (j i : Nat) (x : UInt64) (a b : Nat) : mD (sD σ j i x) a b = if a = j ∧ b = i then x else mD σ a b := rfl
/-- the world w, but for the model, which is σ -/
def put (g : GE) (σ : MW) (w : GW) : GW := (w.1, w.2.1, w.2.2.1, (fun c a => if a = eB g + 70 then (if 576 ≤ c ∧ c < 616 then mI σ (c - 576) else gI w c a) else gI w c a), w.2.2.2.2.1, (fun a i => if eB g + 71 ≤ a ∧ a < eB g + 99 then mA σ (a - (eB g + 71)) i else gA w a i), (fun a i => if eB g + 71 ≤ a ∧ a < eB g + 99 then mD σ (a - (eB g + 71)) i else gD w a i), w.2.2.2.2.2.2.2)
theorem SK.put {g : GE} {w : GW} (h : SK g w) (σ : MW) : SK g (put g σ w) := by
  refine ⟨h.1, h.2.1, h.2.2.1, h.2.2.2.1, h.2.2.2.2.1, fun e he => ?_⟩
  have h1 : e.2.1 < 66 := by
    have : ∀ e ∈ iTab, e.2.1 < 66 := by decide +kernel
    exact this e he
  show (if eB g + e.2.1 = eB g + 70 then _ else gI w e.1 (eB g + e.2.1)) = _
  rw [if_neg (by omega)]
  exact h.2.2.2.2.2 e he
theorem gI_put (g : GE) (σ : MW) (w : GW) (f : Nat) (hf : f < 40) : gI (put g σ w) (576 + f) (eB g + 70) = mI σ f := by
  show (if eB g + 70 = eB g + 70 then (if 576 ≤ 576 + f ∧ 576 + f < 616 then mI σ (576 + f - 576) else _) else _) = _
  rw [if_pos rfl, if_pos (by omega), Nat.add_sub_cancel_left]
theorem gA_put (g : GE) (σ : MW) (w : GW) (j i : Nat) (hj : j < 28) : gA (put g σ w) (eB g + (71 + j)) i = mA σ j i := by
  show (if eB g + 71 ≤ eB g + (71 + j) ∧ eB g + (71 + j) < eB g + 99 then mA σ (eB g + (71 + j) - (eB g + 71)) i else _) = _
  rw [if_pos (by omega), show eB g + (71 + j) - (eB g + 71) = j by omega]
theorem gD_put (g : GE) (σ : MW) (w : GW) (j i : Nat) (hj : j < 28) : gD (put g σ w) (eB g + (71 + j)) i = mD σ j i := by
  show (if eB g + 71 ≤ eB g + (71 + j) ∧ eB g + (71 + j) < eB g + 99 then mD σ (eB g + (71 + j) - (eB g + 71)) i else _) = _
  rw [if_pos (by omega), show eB g + (71 + j) - (eB g + 71) = j by omega]
theorem put_setI (g : GE) (σ : MW) (w : GW) (f : Nat) (hf : f < 40) (x : Int32) : setI (put g σ w) (576 + f) (eB g + 70) x = put g (sI σ f x) w := by
  unfold setI
  refine Prod.ext rfl (Prod.ext rfl (Prod.ext rfl (Prod.ext ?_ rfl)))
  funext c a
  show up2 (gI (put g σ w)) (576 + f) (eB g + 70) x c a = _
  unfold up2
  by_cases ha : a = eB g + 70
  · subst ha
    by_cases hc : c = 576 + f
    · subst hc
      rw [if_pos ⟨rfl, rfl⟩]
      exact (by rw [gI_put g _ w f hf]; simp [mI, sI, va_up] : x = gI (put g (sI σ f x) w) (576 + f) (eB g + 70))
    · rw [if_neg (fun q => hc q.1)]
      show (if eB g + 70 = eB g + 70 then (if 576 ≤ c ∧ c < 616 then mI σ (c - 576) else gI w c (eB g + 70)) else _) = (if eB g + 70 = eB g + 70 then (if 576 ≤ c ∧ c < 616 then mI (sI σ f x) (c - 576) else gI w c (eB g + 70)) else _)
      rw [if_pos rfl, if_pos rfl]
      by_cases h2 : 576 ≤ c ∧ c < 616
      · rw [if_pos h2, if_pos h2, mI_sI, if_neg (by omega)]
      · rw [if_neg h2, if_neg h2]
  · rw [if_neg (fun q => ha q.2)]
    show (if a = eB g + 70 then _ else gI w c a) = (if a = eB g + 70 then _ else gI w c a)
    rw [if_neg ha, if_neg ha]
theorem put_setA (g : GE) (σ : MW) (w : GW) (j i : Nat) (hj : j < 28) (x : Int32) : setA (put g σ w) (eB g + (71 + j)) i x = put g (sA σ j i x) w := by
  unfold setA
  refine Prod.ext rfl (Prod.ext rfl (Prod.ext rfl (Prod.ext rfl (Prod.ext rfl (Prod.ext ?_ rfl)))))
  funext a k
  show up2 (gA (put g σ w)) (eB g + (71 + j)) i x a k = _
  unfold up2
  by_cases ha : eB g + 71 ≤ a ∧ a < eB g + 99
  · show _ = (if eB g + 71 ≤ a ∧ a < eB g + 99 then mA (sA σ j i x) (a - (eB g + 71)) k else _)
    rw [if_pos ha, mA_sA]
    by_cases hc : a = eB g + (71 + j) ∧ k = i
    · rw [if_pos hc, if_pos ⟨by omega, hc.2⟩]
    · rw [if_neg hc, if_neg (fun q => hc ⟨by omega, q.2⟩)]
      show (if eB g + 71 ≤ a ∧ a < eB g + 99 then mA σ (a - (eB g + 71)) k else _) = _
      rw [if_pos ha]
  · rw [if_neg (fun q => ha (by omega))]
    show (if eB g + 71 ≤ a ∧ a < eB g + 99 then _ else gA w a k) = (if eB g + 71 ≤ a ∧ a < eB g + 99 then _ else gA w a k)
    rw [if_neg ha, if_neg ha]
theorem put_setD (g : GE) (σ : MW) (w : GW) (j i : Nat) (hj : j < 28) (x : UInt64) : setD (put g σ w) (eB g + (71 + j)) i x = put g (sD σ j i x) w := by
  unfold setD
  refine Prod.ext rfl (Prod.ext rfl (Prod.ext rfl (Prod.ext rfl (Prod.ext rfl (Prod.ext rfl (Prod.ext ?_ rfl))))))
  funext a k
  show up2 (gD (put g σ w)) (eB g + (71 + j)) i x a k = _
  unfold up2
  by_cases ha : eB g + 71 ≤ a ∧ a < eB g + 99
  · show _ = (if eB g + 71 ≤ a ∧ a < eB g + 99 then mD (sD σ j i x) (a - (eB g + 71)) k else _)
    rw [if_pos ha, mD_sD]
    by_cases hc : a = eB g + (71 + j) ∧ k = i
    · rw [if_pos hc, if_pos ⟨by omega, hc.2⟩]
    · rw [if_neg hc, if_neg (fun q => hc ⟨by omega, q.2⟩)]
      show (if eB g + 71 ≤ a ∧ a < eB g + 99 then mD σ (a - (eB g + 71)) k else _) = _
      rw [if_pos ha]
  · rw [if_neg (fun q => ha (by omega))]
    show (if eB g + 71 ≤ a ∧ a < eB g + 99 then _ else gD w a k) = (if eB g + 71 ≤ a ∧ a < eB g + 99 then _ else gD w a k)
    rw [if_neg ha, if_neg ha]
theorem kTab_len : kTab.length = 99 := by decide +kernel
theorem kTab_lt {j k : Nat} (hk : kTab[71 + j]? = some k) : j < 28 := by
  have := (List.getElem?_eq_some_iff.mp hk).1
  rw [kTab_len] at this
  omega
section MROWS
variable {g : GE} {d : Nat} {Y : GM} {pc : Nat} {ls : List (Nat × Value)} {st : List Value} {w : GW} {σ : MW} {Q : Option Value → GW → Prop}
theorem mg_getI {idx : Nat} (f : Nat) (hd : decode Y.2.1 pc = .ok (.getfield idx, 3)) (hf : gfl Y.1.cls idx 9 f false) (hti : gTI 9 f = true) (hf4 : f < 40) (hS : SK g w) (k : gF g d Y (pc + 3) ls (.int (mI σ f) :: st) (put g σ w) Q) : gF g d Y pc ls (.ref (eB g + 70) :: st) (put g σ w) Q :=
  g_getI 9 f (576 + f) hd hf hti rfl ((hS.put σ).ob 70 rfl) (by rw [gI_put g σ w f hf4]; exact k)
theorem mg_getA {idx : Nat} (f j : Nat) (hd : decode Y.2.1 pc = .ok (.getfield idx, 3)) (hf : gfl Y.1.cls idx 9 f true) (hti : gTI 9 f = false) (hj : (576 + f, 70, 71 + j) ∈ rTab) (hS : SK g w) (k : gF g d Y (pc + 3) ls (.ref (eB g + (71 + j)) :: st) (put g σ w) Q) : gF g d Y pc ls (.ref (eB g + 70) :: st) (put g σ w) Q :=
  g_getR 9 f (576 + f) hd hf hti rfl ((hS.put σ).ob 70 rfl) ((hS.put σ).rf _ _ _ hj) k
theorem mg_putI {idx : Nat} {x : Int32} (f : Nat) (hd : decode Y.2.1 pc = .ok (.putfield idx, 3)) (hf : gfl Y.1.cls idx 9 f false) (hti : gTI 9 f = true) (hf4 : f < 40) (hS : SK g w) (k : gF g d Y (pc + 3) ls st (put g (sI σ f x) w) Q) : gF g d Y pc ls (.int x :: .ref (eB g + 70) :: st) (put g σ w) Q :=
  g_putI 9 f (576 + f) hd hf hti rfl ((hS.put σ).ob 70 rfl) (by rw [put_setI g σ w f hf4]; exact k)
theorem mg_iald {i : Int32} {j n L : Nat} (hd : decode Y.2.1 pc = .ok (.iaload, 1)) (hi : i = nI n) (hk : kTab[71 + j]? = some 11) (hL : lTab[71 + j]? = some L) (hn : n < L) (hS : SK g w) (k : gF g d Y (pc + 1) ls (.int (mA σ j n) :: st) (put g σ w) Q) : gF g d Y pc ls (.int i :: .ref (eB g + (71 + j)) :: st) (put g σ w) Q := by
  have hj : j < 28 := kTab_lt hk
  have hl := (hS.put σ).len _ hL (by rw [List.getD_eq_getElem?_getD, hk]; decide)
  refine g_iald hd ((hS.put σ).ob _ hk) hi (by rw [hl]; exact hn) ?_
  rw [gA_put g σ w j n hj]
  exact k
theorem mg_zald {i : Int32} {j n L : Nat} (hd : decode Y.2.1 pc = .ok (.baload, 1)) (hi : i = nI n) (hk : kTab[71 + j]? = some 12) (hL : lTab[71 + j]? = some L) (hn : n < L) (hS : SK g w) (k : gF g d Y (pc + 1) ls (.int (mA σ j n) :: st) (put g σ w) Q) : gF g d Y pc ls (.int i :: .ref (eB g + (71 + j)) :: st) (put g σ w) Q := by
  have hj : j < 28 := kTab_lt hk
  have hl := (hS.put σ).len _ hL (by rw [List.getD_eq_getElem?_getD, hk]; decide)
  refine g_zald hd ((hS.put σ).ob _ hk) hi (by rw [hl]; exact hn) ?_
  rw [gA_put g σ w j n hj]
  exact k
theorem mg_dald {i : Int32} {j n L : Nat} (hd : decode Y.2.1 pc = .ok (.daload, 1)) (hi : i = nI n) (hk : kTab[71 + j]? = some 10) (hL : lTab[71 + j]? = some L) (hn : n < L) (hS : SK g w) (k : gF g d Y (pc + 1) ls (.double (mD σ j n) :: st) (put g σ w) Q) : gF g d Y pc ls (.int i :: .ref (eB g + (71 + j)) :: st) (put g σ w) Q := by
  have hj : j < 28 := kTab_lt hk
  have hl := (hS.put σ).len _ hL (by rw [List.getD_eq_getElem?_getD, hk]; decide)
  refine g_dald hd ((hS.put σ).ob _ hk) hi (by rw [hl]; exact hn) ?_
  rw [gD_put g σ w j n hj]
  exact k
theorem mg_iast {i x : Int32} {j n L : Nat} (hd : decode Y.2.1 pc = .ok (.iastore, 1)) (hi : i = nI n) (hk : kTab[71 + j]? = some 11) (hL : lTab[71 + j]? = some L) (hn : n < L) (hS : SK g w) (k : gF g d Y (pc + 1) ls st (put g (sA σ j n x) w) Q) : gF g d Y pc ls (.int x :: .int i :: .ref (eB g + (71 + j)) :: st) (put g σ w) Q := by
  have hj : j < 28 := kTab_lt hk
  have hl := (hS.put σ).len _ hL (by rw [List.getD_eq_getElem?_getD, hk]; decide)
  refine g_iast hd ((hS.put σ).ob _ hk) hi (by rw [hl]; exact hn) ?_
  rw [put_setA g σ w j n hj]
  exact k
theorem mg_zast {i x : Int32} {j n L : Nat} (hd : decode Y.2.1 pc = .ok (.bastore, 1)) (hi : i = nI n) (hk : kTab[71 + j]? = some 12) (hL : lTab[71 + j]? = some L) (hn : n < L) (hnb : narrow .boolean (.int x) = .int x) (hS : SK g w) (k : gF g d Y (pc + 1) ls st (put g (sA σ j n x) w) Q) : gF g d Y pc ls (.int x :: .int i :: .ref (eB g + (71 + j)) :: st) (put g σ w) Q := by
  have hj : j < 28 := kTab_lt hk
  have hl := (hS.put σ).len _ hL (by rw [List.getD_eq_getElem?_getD, hk]; decide)
  refine g_zast hd ((hS.put σ).ob _ hk) hi (by rw [hl]; exact hn) hnb ?_
  rw [put_setA g σ w j n hj]
  exact k
theorem mg_dast {i : Int32} {x : UInt64} {j n L : Nat} (hd : decode Y.2.1 pc = .ok (.dastore, 1)) (hi : i = nI n) (hk : kTab[71 + j]? = some 10) (hL : lTab[71 + j]? = some L) (hn : n < L) (hS : SK g w) (k : gF g d Y (pc + 1) ls st (put g (sD σ j n x) w) Q) : gF g d Y pc ls (.double x :: .int i :: .ref (eB g + (71 + j)) :: st) (put g σ w) Q := by
  have hj : j < 28 := kTab_lt hk
  have hl := (hS.put σ).len _ hL (by rw [List.getD_eq_getElem?_getD, hk]; decide)
  refine g_dast hd ((hS.put σ).ob _ hk) hi (by rw [hl]; exact hn) ?_
  rw [put_setD g σ w j n hj]
  exact k
theorem mg_ob (hS : SK g w) : gOb g (put g σ w) (eB g + 70) 9 := (hS.put σ).ob 70 rfl
end MROWS
