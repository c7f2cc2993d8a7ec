abbrev GW : Type := (Nat × Nat) × (Nat → Nat) × (Nat → Nat) × (Nat → Nat → Int32) × (Nat → Nat → Option Nat) × (Nat → Nat → Int32) × (Nat → Nat → UInt64) × (Nat → Nat → Option Nat)
/-- the heap's size -/
def gN (w : GW) : Nat := w.1.1
/-- the slots used so far -/
def gU (w : GW) : Nat := w.1.2
/-- the kind of a cell: 0..9 objects by vwCl, 10 double[], 11 int[], 12 boolean[], 13 Routine[], 14 Row[], 15 Step[] -/
def gK (w : GW) : Nat → Nat := w.2.1
/-- an array's length -/
def gL (w : GW) : Nat → Nat := w.2.2.1
/-- int fields: 64 * class + field, address -/
def gI (w : GW) : Nat → Nat → Int32 := w.2.2.2.1
/-- reference fields -/
def gR (w : GW) : Nat → Nat → Option Nat := w.2.2.2.2.1
/-- int and boolean arrays: address, place -/
def gA (w : GW) : Nat → Nat → Int32 := w.2.2.2.2.2.1
def gD (w : GW) : Nat → Nat → UInt64 := w.2.2.2.2.2.2.1
def gP (w : GW) : Nat → Nat → Option Nat := w.2.2.2.2.2.2.2
def up2 {α : Type} (f : Nat → Nat → α) (c a : Nat) (v : α) : Nat → Nat → α := fun x y => if x = c ∧ y = a then v else f x y
theorem up2_at {α : Type} (f : Nat → Nat → α) (c a : Nat) (v : α) : up2 f c a v c a = v := by simp [up2]
theorem up2_ne {α : Type} (f : Nat → Nat → α) {c a x y : Nat} (v : α) (h : ¬ (x = c ∧ y = a)) : up2 f c a v x y = f x y := by simp only [up2, if_neg h]
def setI (w : GW) (c a : Nat) (x : Int32) : GW := (w.1, w.2.1, w.2.2.1, up2 (gI w) c a x, w.2.2.2.2)
def setR (w : GW) (c a : Nat) (x : Option Nat) : GW := (w.1, w.2.1, w.2.2.1, w.2.2.2.1, up2 (gR w) c a x, w.2.2.2.2.2)
def setA (w : GW) (c a : Nat) (x : Int32) : GW := (w.1, w.2.1, w.2.2.1, w.2.2.2.1, w.2.2.2.2.1, up2 (gA w) c a x, w.2.2.2.2.2.2)
def setD (w : GW) (c a : Nat) (x : UInt64) : GW := (w.1, w.2.1, w.2.2.1, w.2.2.2.1, w.2.2.2.2.1, w.2.2.2.2.2.1, up2 (gD w) c a x, w.2.2.2.2.2.2.2)
def setP (w : GW) (c a : Nat) (x : Option Nat) : GW := (w.1, w.2.1, w.2.2.1, w.2.2.2.1, w.2.2.2.2.1, w.2.2.2.2.2.1, w.2.2.2.2.2.2.1, up2 (gP w) c a x)
def nul2 {α : Type} (f : Nat → Nat → α) (a : Nat) (v : α) : Nat → Nat → α := fun x y => if y = a then v else f x y
def nul1 {α : Type} (f : Nat → Nat → α) (a : Nat) (v : α) : Nat → Nat → α := fun x y => if x = a then v else f x y
/-- a new object of class ci, of N fields, at the heap's end -/
def newO (w : GW) (ci N : Nat) : GW := ((gN w + 1, gU w + N), va_up (gK w) (gN w) ci, w.2.2.1, nul2 (gI w) (gN w) 0, nul2 (gR w) (gN w) none, w.2.2.2.2.2)
/-- a new array of kind kd, of L places -/
def newA (w : GW) (kd L : Nat) : GW := ((gN w + 1, gU w + L), va_up (gK w) (gN w) kd, va_up (gL w) (gN w) L, w.2.2.2.1, w.2.2.2.2.1, nul1 (gA w) (gN w) 0, nul1 (gD w) (gN w) 0, nul1 (gP w) (gN w) none)
theorem gN_setI (w : GW) (c a : Nat) (x : Int32) : gN (setI w c a x) = gN w := rfl
theorem gU_setI (w : GW) (c a : Nat) (x : Int32) : gU (setI w c a x) = gU w := rfl
theorem gK_setI (w : GW) (c a : Nat) (x : Int32) : gK (setI w c a x) = gK w := rfl
theorem gL_setI (w : GW) (c a : Nat) (x : Int32) : gL (setI w c a x) = gL w := rfl
theorem gI_setI (w : GW) (c a : Nat) (x : Int32) : gI (setI w c a x) = up2 (gI w) c a x := rfl
theorem gR_setI (w : GW) (c a : Nat) (x : Int32) : gR (setI w c a x) = gR w := rfl
theorem gA_setI (w : GW) (c a : Nat) (x : Int32) : gA (setI w c a x) = gA w := rfl
theorem gD_setI (w : GW) (c a : Nat) (x : Int32) : gD (setI w c a x) = gD w := rfl
theorem gP_setI (w : GW) (c a : Nat) (x : Int32) : gP (setI w c a x) = gP w := rfl
theorem gN_setR (w : GW) (c a : Nat) (x : Option Nat) : gN (setR w c a x) = gN w := rfl
theorem gU_setR (w : GW) (c a : Nat) (x : Option Nat) : gU (setR w c a x) = gU w := rfl
theorem gK_setR (w : GW) (c a : Nat) (x : Option Nat) : gK (setR w c a x) = gK w := rfl
theorem gL_setR (w : GW) (c a : Nat) (x : Option Nat) : gL (setR w c a x) = gL w := rfl
theorem gI_setR (w : GW) (c a : Nat) (x : Option Nat) : gI (setR w c a x) = gI w := rfl
theorem gR_setR (w : GW) (c a : Nat) (x : Option Nat) : gR (setR w c a x) = up2 (gR w) c a x := rfl
theorem gA_setR (w : GW) (c a : Nat) (x : Option Nat) : gA (setR w c a x) = gA w := rfl
theorem gD_setR (w : GW) (c a : Nat) (x : Option Nat) : gD (setR w c a x) = gD w := rfl
theorem gP_setR (w : GW) (c a : Nat) (x : Option Nat) : gP (setR w c a x) = gP w := rfl
theorem gN_setA (w : GW) (c a : Nat) (x : Int32) : gN (setA w c a x) = gN w := rfl
theorem gU_setA (w : GW) (c a : Nat) (x : Int32) : gU (setA w c a x) = gU w := rfl
theorem gK_setA (w : GW) (c a : Nat) (x : Int32) : gK (setA w c a x) = gK w := rfl
theorem gL_setA (w : GW) (c a : Nat) (x : Int32) : gL (setA w c a x) = gL w := rfl
theorem gI_setA (w : GW) (c a : Nat) (x : Int32) : gI (setA w c a x) = gI w := rfl
theorem gR_setA (w : GW) (c a : Nat) (x : Int32) : gR (setA w c a x) = gR w := rfl
theorem gA_setA (w : GW) (c a : Nat) (x : Int32) : gA (setA w c a x) = up2 (gA w) c a x := rfl
theorem gD_setA (w : GW) (c a : Nat) (x : Int32) : gD (setA w c a x) = gD w := rfl
theorem gP_setA (w : GW) (c a : Nat) (x : Int32) : gP (setA w c a x) = gP w := rfl
theorem gN_setD (w : GW) (c a : Nat) (x : UInt64) : gN (setD w c a x) = gN w := rfl
theorem gU_setD (w : GW) (c a : Nat) (x : UInt64) : gU (setD w c a x) = gU w := rfl
theorem gK_setD (w : GW) (c a : Nat) (x : UInt64) : gK (setD w c a x) = gK w := rfl
theorem gL_setD (w : GW) (c a : Nat) (x : UInt64) : gL (setD w c a x) = gL w := rfl
theorem gI_setD (w : GW) (c a : Nat) (x : UInt64) : gI (setD w c a x) = gI w := rfl
theorem gR_setD (w : GW) (c a : Nat) (x : UInt64) : gR (setD w c a x) = gR w := rfl
theorem gA_setD (w : GW) (c a : Nat) (x : UInt64) : gA (setD w c a x) = gA w := rfl
theorem gD_setD (w : GW) (c a : Nat) (x : UInt64) : gD (setD w c a x) = up2 (gD w) c a x := rfl
theorem gP_setD (w : GW) (c a : Nat) (x : UInt64) : gP (setD w c a x) = gP w := rfl
theorem gN_setP (w : GW) (c a : Nat) (x : Option Nat) : gN (setP w c a x) = gN w := rfl
theorem gU_setP (w : GW) (c a : Nat) (x : Option Nat) : gU (setP w c a x) = gU w := rfl
theorem gK_setP (w : GW) (c a : Nat) (x : Option Nat) : gK (setP w c a x) = gK w := rfl
theorem gL_setP (w : GW) (c a : Nat) (x : Option Nat) : gL (setP w c a x) = gL w := rfl
theorem gI_setP (w : GW) (c a : Nat) (x : Option Nat) : gI (setP w c a x) = gI w := rfl
theorem gR_setP (w : GW) (c a : Nat) (x : Option Nat) : gR (setP w c a x) = gR w := rfl
theorem gA_setP (w : GW) (c a : Nat) (x : Option Nat) : gA (setP w c a x) = gA w := rfl
theorem gD_setP (w : GW) (c a : Nat) (x : Option Nat) : gD (setP w c a x) = gD w := rfl
theorem gP_setP (w : GW) (c a : Nat) (x : Option Nat) : gP (setP w c a x) = up2 (gP w) c a x := rfl
theorem gN_newO (w : GW) (ci N : Nat) : gN (newO w ci N) = gN w + 1 := rfl
theorem gU_newO (w : GW) (ci N : Nat) : gU (newO w ci N) = gU w + N := rfl
theorem gK_newO (w : GW) (ci N : Nat) : gK (newO w ci N) = va_up (gK w) (gN w) ci := rfl
theorem gL_newO (w : GW) (ci N : Nat) : gL (newO w ci N) = gL w := rfl
theorem gI_newO (w : GW) (ci N : Nat) : gI (newO w ci N) = nul2 (gI w) (gN w) 0 := rfl
theorem gR_newO (w : GW) (ci N : Nat) : gR (newO w ci N) = nul2 (gR w) (gN w) none := rfl
theorem gA_newO (w : GW) (ci N : Nat) : gA (newO w ci N) = gA w := rfl
theorem gD_newO (w : GW) (ci N : Nat) : gD (newO w ci N) = gD w := rfl
theorem gP_newO (w : GW) (ci N : Nat) : gP (newO w ci N) = gP w := rfl
theorem gN_newA (w : GW) (ci N : Nat) : gN (newA w ci N) = gN w + 1 := rfl
theorem gU_newA (w : GW) (ci N : Nat) : gU (newA w ci N) = gU w + N := rfl
theorem gK_newA (w : GW) (ci N : Nat) : gK (newA w ci N) = va_up (gK w) (gN w) ci := rfl
theorem gL_newA (w : GW) (ci N : Nat) : gL (newA w ci N) = va_up (gL w) (gN w) N := rfl
theorem gI_newA (w : GW) (ci N : Nat) : gI (newA w ci N) = gI w := rfl
theorem gR_newA (w : GW) (ci N : Nat) : gR (newA w ci N) = gR w := rfl
theorem gA_newA (w : GW) (ci N : Nat) : gA (newA w ci N) = nul1 (gA w) (gN w) 0 := rfl
theorem gD_newA (w : GW) (ci N : Nat) : gD (newA w ci N) = nul1 (gD w) (gN w) 0 := rfl
theorem gP_newA (w : GW) (ci N : Nat) : gP (newA w ci N) = nul1 (gP w) (gN w) none := rfl
def gNF (ci : Nat) : Nat := match ci with | 0 => 9 | 1 => 4 | 2 => 1 | 3 => 6 | 4 => 2 | 5 => 5 | 6 => 4 | 7 => 8 | 8 => 1 | _ => 40
def gTy (ci : Nat) : Nat → FieldType := match ci with | 0 => tyX0 | 1 => tyX1 | 2 => tyX2 | 3 => tyX3 | 4 => tyX4 | 5 => tyX5 | 6 => tyX6 | 7 => tyX7 | 8 => tyX9 | _ => tyX10
/-- whether a field is an int (else a reference) -/
def gTI (ci k : Nat) : Bool := match gTy ci k with | .int => true | _ => false
/-- what field k of the object at a holds -/
def gV (w : GW) (ci a k : Nat) : Value := if gTI ci k = true then .int (gI w (64 * ci + k) a) else va_rf (gR w (64 * ci + k) a)
/-- what place j of the array at a holds -/
def gE (w : GW) (kd a j : Nat) : Value := if kd = 10 then .double (gD w a j) else if kd = 11 ∨ kd = 12 then .int (gA w a j) else va_rf (gP w a j)
/-- launch, class numbers and slots, array classes, the first address of ours, the read-only arrays (0..4 statics, 5 the script): address, length, contents -/
abbrev GE : Type := Launch × va_G × (Nat → ClassId) × Nat × (Nat → Nat) × (Nat → Nat) × (Nat → Nat → Int32)
def eL (g : GE) : Launch := g.1
def eG (g : GE) : va_G := g.2.1
def eC (g : GE) : Nat → ClassId := g.2.2.1
def eB (g : GE) : Nat := g.2.2.2.1
def eO (g : GE) : Nat → Nat := g.2.2.2.2.1
def eOL (g : GE) : Nat → Nat := g.2.2.2.2.2.1
def eOF (g : GE) : Nat → Nat → Int32 := g.2.2.2.2.2.2
abbrev gFr (g : GE) : Nat → Prop := fun q => eB g ≤ q
def gAt (g : GE) (w : GW) (a : Nat) (H : Heap) : Prop :=
  (gK w a < 10 ∧ t_OB a ((eG g).1 (gK w a)) (gNF (gK w a)) ((eG g).2 (gK w a)) H (gV w (gK w a) a)) ∨ (10 ≤ gK w a ∧ gK w a < 16 ∧ gL w a < 2 ^ 31 ∧ H[a]? = some (arrV (eC g (gK w a)) (gL w a) (gE w (gK w a) a)))
def gTys (g : GE) : List (ClassId × FieldType) := [(eC g 10, .double), (eC g 11, .int), (eC g 12, .boolean), (eC g 13, .object RX5), (eC g 14, .object RX6), (eC g 15, .object RX7)]
def gRo (g : GE) (i : Nat) (U : State) (H : Heap) : Prop := eO g i < eB g ∧ ∃ cell : Cell, H[eO g i]? = some cell ∧ U.isArrayOf cell .int ∧ cell.vm ≠ .unknown ∧ cell.slots.size = eOL g i ∧ eOL g i < 2 ^ 31 ∧ ∀ j : Nat, j < eOL g i → cell.slots[j]? = some (.int (eOF g i j))
def gSt (g : GE) (w : GW) (U : State) (H : Heap) : Prop := H.size = gN w ∧ eB g ≤ gN w ∧ (∀ a : Nat, eB g ≤ a → a < gN w → gAt g w a H) ∧ ∀ i : Nat, i < 6 → gRo g i U H
def gzC (i : Nat) : String := match i with | 4 => RX3 | _ => RX7
def gzN (i : Nat) : String := match i with | 0 => "LEAST_A" | 1 => "MOST_A" | 2 => "MOST_B" | 3 => "MOST_C" | _ => "ABOVE"
def gZs (g : GE) (U : State) (H : Heap) : Prop := ∀ i : Nat, i < 5 → va_Z (gzC i) (gzN i) "[I" (.ref (eO g i)) (gFr g) U H
def gAOs (U : State) : Prop := va_AO RX5 U ∧ va_AO RX6 U ∧ va_AO RX7 U
def gPre (g : GE) (w : GW) (U : State) : Prop := gSt g w U U.heap ∧ va_K (eG g) vwCl (gTys g) U ∧ gZs g U U.heap ∧ gAOs U
def gPost (g : GE) (r : Option Value) (w : GW) : Array Value → State → Outcome → State → Prop := fun _ st o t => o = .returned r ∧ gSt g w t t.heap ∧ va_F (gFr g) st t

/-- the words of the tables that hold in every state of the run -/
def gT : List Cond := lw_tbl.filter goodWord
theorem gAll : ∀ w ∈ gT, (w.onTables && w.keeps) = true ∨ ∃ ty, w = .arrayClass ty := fun w h => good_of_word (List.mem_filter.mp h).2
theorem gT_in {i : Nat} {w : Cond} (h : lw_tbl[i]? = some w) (hg : goodWord w = true) : w ∈ gT := List.mem_filter.mpr ⟨List.mem_of_getElem? h, hg⟩
abbrev GM : Type := MethodName × ByteArray × Nat × Option FieldType
abbrev gWs (Y : GM) : List Cond := Cond.code Y.1 Y.2.1 Y.2.2.1 Y.2.2.2 :: gT
abbrev gRm (d mc ms : Nat) : Room := { frames := d, cells := mc, slots := ms, locals := 64 * d }
def gCx (g : GE) (Y : GM) (d : Nat) (p : Program) (R : Room) (s : State) (m : MethodId) (args : Array Value) (meth : Method) (c : Code) : Prop :=
  p.tables.exec = Jvm.exec ∧ c.code = Y.2.1 ∧ c.maxLocals = Y.2.2.1 ∧ s.vm.findClass Y.1.cls = some m.cls ∧ (∀ w ∈ gT, w.before args s = true) ∧ meth.locks = false ∧ meth.sig.returnType = Y.2.2.2 ∧ meth.name = Y.1.name ∧ va_K (eG g) vwCl (gTys g) s ∧ gZs g s s.heap ∧ gAOs s ∧ d ≤ R.frames ∧ 64 * d ≤ R.locals
/-- from this point of method Y, in the world w, the frame comes to its end: answer r, world w' -/
def gG (g : GE) (d : Nat) (Y : GM) (pc : Nat) (ls : List (Nat × Value)) (st : List Value) (w : GW) (r : Option Value) (w' : GW) : Prop :=
  ∀ (p : Program) (e : Env) (R : Room) (s : State) (m : MethodId) (args : Array Value) (below : List Frame) (meth : Method) (c : Code) (n0 u0 : Nat) (H : Heap) (locs : List Loc) (lsA : Array Slot), gCx g Y d p R s m args meth c → n0 ≤ gN w → u0 ≤ gU w → gN w' - n0 ≤ R.cells → gU w' - u0 ≤ R.slots → gSt g w s H → va_S (gFr g) s.heap H locs → lv_has lsA Y.2.2.1 ls →
    W p (eL g) e R s m args below meth c H locs (gN w - n0) (gU w - u0) (MQ below (gPost g r w') args s (gN w' - n0) (gU w' - u0) (gFr g)) (F0 m pc lsA st)
/-- the same, of what Q says -/
def gF (g : GE) (d : Nat) (Y : GM) (pc : Nat) (ls : List (Nat × Value)) (st : List Value) (w : GW) (Q : Option Value → GW → Prop) : Prop :=
  ∃ (r : Option Value) (w' : GW), Q r w' ∧ gN w ≤ gN w' ∧ gU w ≤ gU w' ∧ gG g d Y pc ls st w r w'
/-- method Y, called with these arguments in the world w, returns, and Q holds of answer and world -/
def gM (g : GE) (d : Nat) (Y : GM) (as : List Value) (w : GW) (Q : Option Value → GW → Prop) : Prop :=
  ∃ (r : Option Value) (w' : GW), Q r w' ∧ gN w ≤ gN w' ∧ gU w ≤ gU w' ∧ Met (eL g) Y.1 (gWs Y) (gRm d (gN w' - gN w) (gU w' - gU w)) (va_Pc as (gPre g w)) (gPost g r w') (gN w' - gN w) (gU w' - gU w) (gFr g)
theorem gF.step {g : GE} {d : Nat} {Y : GM} {pc pc1 : Nat} {ls ls1 : List (Nat × Value)} {st st1 : List Value} {w w1 : GW} {Q : Option Value → GW → Prop} (k : gF g d Y pc1 ls1 st1 w1 Q) (hn : gN w ≤ gN w1) (hu : gU w ≤ gU w1) (h : ∀ r w', gN w1 ≤ gN w' → gU w1 ≤ gU w' → gG g d Y pc1 ls1 st1 w1 r w' → gG g d Y pc ls st w r w') : gF g d Y pc ls st w Q := by
  obtain ⟨r, w', h1, h2, h3, h4⟩ := k
  exact ⟨r, w', h1, Nat.le_trans hn h2, Nat.le_trans hu h3, h r w' h2 h3 h4⟩
theorem gF.pure {g : GE} {d : Nat} {Y : GM} {pc pc1 : Nat} {ls ls1 : List (Nat × Value)} {st st1 : List Value} {w : GW} {Q : Option Value → GW → Prop} (k : gF g d Y pc1 ls1 st1 w Q) (h : ∀ r w', gG g d Y pc1 ls1 st1 w r w' → gG g d Y pc ls st w r w') : gF g d Y pc ls st w Q := k.step (Nat.le_refl _) (Nat.le_refl _) (fun r w' _ _ h4 => h r w' h4)
theorem gF.imp {g : GE} {d : Nat} {Y : GM} {pc : Nat} {ls : List (Nat × Value)} {st : List Value} {w : GW} {Q Q' : Option Value → GW → Prop} (k : gF g d Y pc ls st w Q) (h : ∀ r w', Q r w' → Q' r w') : gF g d Y pc ls st w Q' := by
  obtain ⟨r, w', h1, h2⟩ := k
  exact ⟨r, w', h r w' h1, h2⟩
theorem gM.imp {g : GE} {d : Nat} {Y : GM} {as : List Value} {w : GW} {Q Q' : Option Value → GW → Prop} (k : gM g d Y as w Q) (h : ∀ r w', gN w ≤ gN w' → gU w ≤ gU w' → Q r w' → Q' r w') : gM g d Y as w Q' := by
  obtain ⟨r, w', h1, h2, h3, h4⟩ := k
  exact ⟨r, w', h r w' h2 h3 h1, h2, h3, h4⟩
