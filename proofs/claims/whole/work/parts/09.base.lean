/-! a switch by a table, case by case -/
def tswK (P : Nat → Int32 → Prop) (v : Int) : List Nat → Prop
  | [] => True
  | t :: l => P t (Int32.ofInt v) ∧ tswK P (v + 1) l
theorem tswK_at {P : Nat → Int32 → Prop} : ∀ {l : List Nat} {v : Int}, tswK P v l → ∀ {j t : Nat}, l[j]? = some t → P t (Int32.ofInt (v + j))
  | [], _, _, j, t, ht => by cases j <;> cases ht
  | a :: l, v, h, 0, t, ht => by cases ht; have := h.1; simpa using this
  | a :: l, v, h, j + 1, t, ht => by
    have := tswK_at h.2 (j := j) (t := t) ht
    have e : v + 1 + (j : Int) = v + ((j + 1 : Nat) : Int) := by omega
    rw [e] at this
    exact this
theorem g_tsw {g : GE} {d : Nat} {Y : GM} {pc : Nat} {ls : List (Nat × Value)} {st : List Value} {w : GW} {Q : Option Value → GW → Prop} {dflt lo hi : Int} {offs : Array Int} {len : Nat} {x : Int32} (hd : decode Y.2.1 pc = .ok (.tableswitch dflt lo hi offs, len)) (tg : List Nat) (dt : Nat) (hdt : (pc : Int) + dflt = (dt : Int))
    (hoffs : offs.toList.map (fun o => (pc : Int) + o) = tg.map (fun t : Nat => (t : Int))) (hlen : (tg.length : Int) = hi - lo + 1) (hlo : -2147483648 ≤ lo) (hhi : hi < 2147483648)
    (kin : tswK (fun t v => x = v → gF g d Y t ls st w Q) lo tg) (kout : (x.toInt < lo ∨ hi < x.toInt) → gF g d Y dt ls st w Q) : gF g d Y pc ls (.int x :: st) w Q := by
  by_cases h1 : x.toInt < lo
  · exact g_tableOut dt hd (Or.inl h1) hdt (kout (Or.inl h1))
  · by_cases h2 : hi < x.toInt
    · exact g_tableOut dt hd (Or.inr h2) hdt (kout (Or.inr h2))
    · have hj : (x.toInt - lo).toNat < tg.length := by omega
      obtain ⟨t, ht⟩ : ∃ t, tg[(x.toInt - lo).toNat]? = some t := ⟨_, List.getElem?_eq_getElem hj⟩
      have hm : (offs.toList.map (fun o => (pc : Int) + o))[(x.toInt - lo).toNat]? = some ((t : Nat) : Int) := by
        rw [hoffs, List.getElem?_map, ht]; rfl
      rw [List.getElem?_map] at hm
      cases ho : offs.toList[(x.toInt - lo).toNat]? with
      | none => rw [ho] at hm; cases hm
      | some off =>
        rw [ho] at hm
        have hoff : (pc : Int) + off = (t : Int) := Option.some.inj hm
        refine g_tableIn t hd h1 h2 (by rw [← Array.getElem?_toList]; exact ho) hoff (tswK_at kin ht ?_)
        have e : lo + ((x.toInt - lo).toNat : Int) = x.toInt := by omega
        rw [e, Int32.ofInt_toInt]
theorem tsw_ne {x : Int32} {lo hi : Int} (h : x.toInt < lo ∨ hi < x.toInt) (k : Int32) (hk : lo ≤ k.toInt ∧ k.toInt ≤ hi) : ¬ x = k := fun e => by subst e; omega
theorem gOb_newO {g : GE} {w : GW} {a ci c N : Nat} (h : gOb g w a ci) : gOb g (newO w c N) a ci := ⟨h.1, by rw [gN_newO]; have := h.2.1; omega, by rw [gK_newO, va_up_ne _ _ (Nat.ne_of_lt h.2.1)]; exact h.2.2⟩
theorem gOb_newA {g : GE} {w : GW} {a ci c N : Nat} (h : gOb g w a ci) : gOb g (newA w c N) a ci := ⟨h.1, by rw [gN_newA]; have := h.2.1; omega, by rw [gK_newA, va_up_ne _ _ (Nat.ne_of_lt h.2.1)]; exact h.2.2⟩
theorem gOb_selfO {g : GE} {w : GW} {ci N : Nat} (h : eB g ≤ gN w) : gOb g (newO w ci N) (gN w) ci := ⟨h, Nat.lt_succ_self _, by rw [gK_newO, va_up_self]⟩
theorem gOb_selfA {g : GE} {w : GW} {kd N : Nat} (h : eB g ≤ gN w) : gOb g (newA w kd N) (gN w) kd := ⟨h, Nat.lt_succ_self _, by rw [gK_newA, va_up_self]⟩
/-! ints that are small numbers -/
theorem nI_of_rng {x : Int32} {n : Nat} (h0 : ¬ x < 0) (h1 : ¬ nI n ≤ x) (hn : n < 2 ^ 31) : ∃ j : Nat, j < n ∧ x = nI j := by
  obtain ⟨j, hj, rfl⟩ := nI_of h0
  refine ⟨j, ?_, rfl⟩
  rcases Nat.lt_or_ge j n with q | q
  · exact q
  · exact absurd (nI_le q (by omega)) h1
/-! ===== what stands at fixed addresses, once both are made ===== -/
/-- kinds by offset: 0 GaugeBench, 1 Bench, 2 Routine 0, 3 its steps, 4 routines, 5.. Routines 1 to 3, 11 rows, 12 + 3 w Row w, its doubles, its ready, 66 Dials, 67 its doubles, 68 NumberLog, 69 its doubles; 70 the model, 71 .. its arrays -/
def kTab : List Nat := [8, 0, 5, 15, 13, 5, 15, 5, 15, 5, 15, 14] ++ (List.replicate 18 [6, 10, 12]).flatten ++ [2, 10, 4, 10] ++ [9] ++ [11, 11, 11, 11, 11, 11, 11, 11, 11, 11, 11, 10, 12, 11, 10, 12, 11, 11, 11, 11, 11, 11, 11, 11, 11, 11, 10, 11]
def lTab : List Nat := [0, 0, 0, 40, 4, 0, 40, 0, 40, 0, 40, 18] ++ (List.replicate 18 [0, 16, 16]).flatten ++ [0, 8, 0, 800] ++ [0] ++ [160, 160, 160, 160, 160, 160, 4, 4, 24, 24, 24, 8, 18, 18, 288, 288, 600, 600, 600, 600, 600, 60, 60, 60, 60, 60, 1000, 12]
/-- final references: field, offset of the object, offset of what it names -/
def rTab : List (Nat × Nat × Nat) := [(512, 0, 1), (0, 1, 4), (1, 1, 11), (2, 1, 66), (3, 1, 68), (321, 2, 3), (321, 5, 6), (321, 7, 8), (321, 9, 10), (128, 66, 67), (256, 68, 69)] ++ (List.range 18).flatMap (fun r => [(385, 12 + 3 * r, 13 + 3 * r), (386, 12 + 3 * r, 14 + 3 * r)]) ++ [(576, 70, 71), (577, 70, 72), (578, 70, 73), (579, 70, 74), (580, 70, 75), (581, 70, 76), (582, 70, 77), (583, 70, 78), (584, 70, 79), (585, 70, 80), (586, 70, 81), (588, 70, 82), (589, 70, 83), (590, 70, 84), (591, 70, 85), (592, 70, 86), (593, 70, 87), (594, 70, 88), (595, 70, 89), (596, 70, 90), (597, 70, 91), (600, 70, 92), (601, 70, 93), (602, 70, 94), (603, 70, 95), (604, 70, 96), (613, 70, 97), (615, 70, 98)]
def pTab : List (Nat × Nat × Nat) := [(4, 0, 2), (4, 1, 5), (4, 2, 7), (4, 3, 9)] ++ (List.range 18).map (fun r => (11, r, 12 + 3 * r))
def iTab : List (Nat × Nat × Int32) := [(320, 2, 0), (320, 5, 1), (320, 7, 2), (320, 9, 3)] ++ (List.range 18).map (fun r => (384, 12 + 3 * r, nI (r / 2)))
/-- both are made: kinds, lengths, final fields at their addresses -/
def SK (g : GE) (w : GW) : Prop := eB g + 99 ≤ gN w ∧ (∀ i k, kTab[i]? = some k → gK w (eB g + i) = k) ∧ (∀ i n, lTab[i]? = some n → 10 ≤ kTab.getD i 0 → gL w (eB g + i) = n) ∧ (∀ e ∈ rTab, gR w e.1 (eB g + e.2.1) = some (eB g + e.2.2)) ∧ (∀ e ∈ pTab, gP w (eB g + e.1) e.2.1 = some (eB g + e.2.2)) ∧ (∀ e ∈ iTab, gI w e.1 (eB g + e.2.1) = e.2.2)
theorem SK.ob {g : GE} {w : GW} (h : SK g w) (i : Nat) {k : Nat} (hk : kTab[i]? = some k) : gOb g w (eB g + i) k := by
  have h1 := h.1
  have hi : i < 99 := by
    rcases Nat.lt_or_ge i 99 with q | q
    · exact q
    · rw [List.getElem?_eq_none (by show kTab.length ≤ i; exact q)] at hk; cases hk
  exact ⟨by omega, by omega, h.2.1 i k hk⟩
theorem SK.len {g : GE} {w : GW} (h : SK g w) (i : Nat) {n : Nat} (hn : lTab[i]? = some n) (hk : 10 ≤ kTab.getD i 0) : gL w (eB g + i) = n := h.2.2.1 i n hn hk
theorem SK.rf {g : GE} {w : GW} (h : SK g w) (c i j : Nat) (he : (c, i, j) ∈ rTab) : gR w c (eB g + i) = some (eB g + j) := h.2.2.2.1 _ he
theorem SK.pt {g : GE} {w : GW} (h : SK g w) (a i j : Nat) (he : (a, i, j) ∈ pTab) : gP w (eB g + a) i = some (eB g + j) := h.2.2.2.2.1 _ he
theorem SK.it {g : GE} {w : GW} (h : SK g w) (c i : Nat) (v : Int32) (he : (c, i, v) ∈ iTab) : gI w c (eB g + i) = v := h.2.2.2.2.2 _ he
theorem SK.setA {g : GE} {w : GW} (h : SK g w) (a i : Nat) (x : Int32) : SK g (setA w a i x) := h
theorem SK.setD {g : GE} {w : GW} (h : SK g w) (a i : Nat) (x : UInt64) : SK g (setD w a i x) := h
theorem SK.setI {g : GE} {w : GW} (h : SK g w) (c a : Nat) (x : Int32) (hc : c ≠ 320 ∧ c ≠ 384) : SK g (setI w c a x) := by
  refine ⟨h.1, h.2.1, h.2.2.1, h.2.2.2.1, h.2.2.2.2.1, fun e he => ?_⟩
  have h1 : e.1 = 320 ∨ e.1 = 384 := by
    have : ∀ e ∈ iTab, e.1 = 320 ∨ e.1 = 384 := by decide +kernel
    exact this e he
  rw [gI_setI, up2_ne _ _ (by omega)]
  exact h.2.2.2.2.2 e he
theorem SK.setR {g : GE} {w : GW} (h : SK g w) (c a : Nat) (x : Option Nat) (hc : rTab.all (fun e => !(e.1 == c)) = true) : SK g (setR w c a x) := by
  refine ⟨h.1, h.2.1, h.2.2.1, fun e he => ?_, h.2.2.2.2.1, h.2.2.2.2.2⟩
  have h1 := List.all_eq_true.mp hc e he
  have h2 : e.1 ≠ c := by simpa using h1
  rw [gR_setR, up2_ne _ _ (by omega)]
  exact h.2.2.2.1 e he
/-- a cell in the array of a routine's steps -/
theorem SK.setP {g : GE} {w : GW} (h : SK g w) (a i : Nat) (x : Option Nat) (ha : a ≠ eB g + 4 ∧ a ≠ eB g + 11) : SK g (setP w a i x) := by
  refine ⟨h.1, h.2.1, h.2.2.1, h.2.2.2.1, fun e he => ?_, h.2.2.2.2.2⟩
  have h1 : e.1 = 4 ∨ e.1 = 11 := by
    have : ∀ e ∈ pTab, e.1 = 4 ∨ e.1 = 11 := by decide +kernel
    exact this e he
  rw [gP_setP, up2_ne _ _ (by omega)]
  exact h.2.2.2.2.1 e he
theorem SK.newO {g : GE} {w : GW} (h : SK g w) (ci N : Nat) : SK g (newO w ci N) := by
  have h0 := h.1
  have hk : ∀ (i : Nat), i < 99 → eB g + i ≠ gN w := fun i hi => by omega
  have hkl : kTab.length = 99 := by decide +kernel
  refine ⟨by rw [gN_newO]; omega, fun i k hi => ?_, h.2.2.1, fun e he => ?_, h.2.2.2.2.1, fun e he => ?_⟩
  · have : i < 99 := by rw [← hkl]; exact (List.getElem?_eq_some_iff.mp hi).1
    rw [gK_newO, va_up_ne _ _ (hk i this)]
    exact h.2.1 i k hi
  · have h1 : e.2.1 < 99 := by
      have : ∀ e ∈ rTab, e.2.1 < 99 := by decide +kernel
      exact this e he
    rw [gR_newO, nul2, if_neg (hk _ h1)]
    exact h.2.2.2.1 e he
  · have h1 : e.2.1 < 99 := by
      have : ∀ e ∈ iTab, e.2.1 < 99 := by decide +kernel
      exact this e he
    rw [gI_newO, nul2, if_neg (hk _ h1)]
    exact h.2.2.2.2.2 e he
/-! what a comparison of doubles answers -/
theorem cv_gtl (o : Option Ordering) : 0 < Op.cmpValue o .l ↔ o = some .gt := by rcases o with _ | _ | _ | _ <;> decide
theorem cv_gtg (o : Option Ordering) : 0 < Op.cmpValue o .g ↔ (o = some .gt ∨ o = none) := by rcases o with _ | _ | _ | _ <;> decide
theorem cv_lel (o : Option Ordering) : Op.cmpValue o .l ≤ 0 ↔ ¬ o = some .gt := by rcases o with _ | _ | _ | _ <;> decide
theorem cv_gel (o : Option Ordering) : 0 ≤ Op.cmpValue o .l ↔ (o = some .gt ∨ o = some .eq) := by rcases o with _ | _ | _ | _ <;> decide
theorem cv_geg (o : Option Ordering) : 0 ≤ Op.cmpValue o .g ↔ ¬ o = some .lt := by rcases o with _ | _ | _ | _ <;> decide
theorem cv_ltl (o : Option Ordering) : Op.cmpValue o .l < 0 ↔ (o = some .lt ∨ o = none) := by rcases o with _ | _ | _ | _ <;> decide
theorem cv_ltg (o : Option Ordering) : Op.cmpValue o .g < 0 ↔ o = some .lt := by rcases o with _ | _ | _ | _ <;> decide
theorem cv_leg (o : Option Ordering) : Op.cmpValue o .g ≤ 0 ↔ (o = some .lt ∨ o = some .eq) := by rcases o with _ | _ | _ | _ <;> decide
theorem cv_eql (o : Option Ordering) : Op.cmpValue o .l = 0 ↔ o = some .eq := by rcases o with _ | _ | _ | _ <;> decide
theorem cv_eqg (o : Option Ordering) : Op.cmpValue o .g = 0 ↔ o = some .eq := by rcases o with _ | _ | _ | _ <;> decide
