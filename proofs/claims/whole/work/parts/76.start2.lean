/-! ===== the law's start: statics, classes, arrays as the premises have them ===== -/
theorem sa_am0 : Cond.arrayOf (Term.static "GaugeBench$Step" "LEAST_A" "[I") .int ∈ flatC (Jvm.Cond.and given_1 narrow_1) := by decide +kernel
theorem sa_ln0 : Cond.eq (.length (Term.static "GaugeBench$Step" "LEAST_A" "[I")) (.int (Int32.ofNat 25)) ∈ flatC (Jvm.Cond.and given_1 narrow_1) := by decide +kernel
theorem sa_el0 : ∀ j, j < 25 → Cond.eq (.elem (Term.static "GaugeBench$Step" "LEAST_A" "[I") (.int (Int32.ofNat j))) (.int (tLA j)) ∈ flatC (Jvm.Cond.and given_1 narrow_1) := by decide +kernel
theorem sa_ls0 : Cond.laysStatic "GaugeBench$Step" "LEAST_A" "[I" ∈ lw_tbl := List.mem_of_getElem? (i := 218) (by decide +kernel)
theorem sa_in0 : Cond.initialized "GaugeBench$Step" ∈ lw_tbl := List.mem_of_getElem? (i := 67) (by decide +kernel)
theorem sa_am1 : Cond.arrayOf (Term.static "GaugeBench$Step" "MOST_A" "[I") .int ∈ flatC (Jvm.Cond.and given_1 narrow_1) := by decide +kernel
theorem sa_ln1 : Cond.eq (.length (Term.static "GaugeBench$Step" "MOST_A" "[I")) (.int (Int32.ofNat 25)) ∈ flatC (Jvm.Cond.and given_1 narrow_1) := by decide +kernel
theorem sa_el1 : ∀ j, j < 25 → Cond.eq (.elem (Term.static "GaugeBench$Step" "MOST_A" "[I") (.int (Int32.ofNat j))) (.int (tMA j)) ∈ flatC (Jvm.Cond.and given_1 narrow_1) := by decide +kernel
theorem sa_ls1 : Cond.laysStatic "GaugeBench$Step" "MOST_A" "[I" ∈ lw_tbl := List.mem_of_getElem? (i := 220) (by decide +kernel)
theorem sa_in1 : Cond.initialized "GaugeBench$Step" ∈ lw_tbl := List.mem_of_getElem? (i := 67) (by decide +kernel)
theorem sa_am2 : Cond.arrayOf (Term.static "GaugeBench$Step" "MOST_B" "[I") .int ∈ flatC (Jvm.Cond.and given_1 narrow_1) := by decide +kernel
theorem sa_ln2 : Cond.eq (.length (Term.static "GaugeBench$Step" "MOST_B" "[I")) (.int (Int32.ofNat 25)) ∈ flatC (Jvm.Cond.and given_1 narrow_1) := by decide +kernel
theorem sa_el2 : ∀ j, j < 25 → Cond.eq (.elem (Term.static "GaugeBench$Step" "MOST_B" "[I") (.int (Int32.ofNat j))) (.int (tMB j)) ∈ flatC (Jvm.Cond.and given_1 narrow_1) := by decide +kernel
theorem sa_ls2 : Cond.laysStatic "GaugeBench$Step" "MOST_B" "[I" ∈ lw_tbl := List.mem_of_getElem? (i := 225) (by decide +kernel)
theorem sa_in2 : Cond.initialized "GaugeBench$Step" ∈ lw_tbl := List.mem_of_getElem? (i := 67) (by decide +kernel)
theorem sa_am3 : Cond.arrayOf (Term.static "GaugeBench$Step" "MOST_C" "[I") .int ∈ flatC (Jvm.Cond.and given_1 narrow_1) := by decide +kernel
theorem sa_ln3 : Cond.eq (.length (Term.static "GaugeBench$Step" "MOST_C" "[I")) (.int (Int32.ofNat 25)) ∈ flatC (Jvm.Cond.and given_1 narrow_1) := by decide +kernel
theorem sa_el3 : ∀ j, j < 25 → Cond.eq (.elem (Term.static "GaugeBench$Step" "MOST_C" "[I") (.int (Int32.ofNat j))) (.int (tMC j)) ∈ flatC (Jvm.Cond.and given_1 narrow_1) := by decide +kernel
theorem sa_ls3 : Cond.laysStatic "GaugeBench$Step" "MOST_C" "[I" ∈ lw_tbl := List.mem_of_getElem? (i := 227) (by decide +kernel)
theorem sa_in3 : Cond.initialized "GaugeBench$Step" ∈ lw_tbl := List.mem_of_getElem? (i := 67) (by decide +kernel)
theorem sa_am4 : Cond.arrayOf (Term.static "GaugeBench$Fault" "ABOVE" "[I") .int ∈ flatC (Jvm.Cond.and given_1 narrow_1) := by decide +kernel
theorem sa_ln4 : Cond.eq (.length (Term.static "GaugeBench$Fault" "ABOVE" "[I")) (.int (Int32.ofNat 12)) ∈ flatC (Jvm.Cond.and given_1 narrow_1) := by decide +kernel
theorem sa_el4 : ∀ j, j < 12 → Cond.eq (.elem (Term.static "GaugeBench$Fault" "ABOVE" "[I") (.int (Int32.ofNat j))) (.int (aTab j)) ∈ flatC (Jvm.Cond.and given_1 narrow_1) := by decide +kernel
theorem sa_ls4 : Cond.laysStatic "GaugeBench$Fault" "ABOVE" "[I" ∈ lw_tbl := List.mem_of_getElem? (i := 426) (by decide +kernel)
theorem sa_in4 : Cond.initialized "GaugeBench$Fault" ∈ lw_tbl := List.mem_of_getElem? (i := 69) (by decide +kernel)
theorem ln_small {args : Array Value} {s : State} {t : Term} {v : Value} (h : (Term.length t).eval args s none [] s = some v) : ∃ (a : Addr) (cell : Cell), t.eval args s none [] s = some (.ref a) ∧ s.arrayAt? a = some cell ∧ cell.slots.size < 2147483648 ∧ v = .int cell.slots.size.toInt32 := by
  simp only [Term.eval, Option.bind_eq_bind] at h
  cases ht : t.eval args s none [] s with
  | none => simp [ht] at h
  | some x =>
    cases x <;> simp [ht] at h
    case ref a =>
      obtain ⟨cell, hcell, h⟩ := Option.bind_eq_some_iff.mp h
      by_cases hn : cell.slots.size < 2147483648
      · rw [if_pos hn] at h; cases h; exact ⟨a, cell, rfl, hcell, hn, rfl⟩
      · rw [if_neg hn] at h; cases h
theorem st_arr {args : Array Value} {s : State} {C n : String} {N : Nat} {f : Nat → Int32} {A : Nat → Prop} (hN : N < 2 ^ 31) (hl : (Cond.laysStatic C n "[I").before args s = true) (hini : (Cond.initialized C).before args s = true) (harr : (Cond.arrayOf (.static C n "[I") .int).before args s = true) (hlen : (Cond.eq (.length (.static C n "[I")) (.int (Int32.ofNat N))).before args s = true) (hel : ∀ j : Nat, j < N → (Cond.eq (.elem (.static C n "[I") (.int (Int32.ofNat j))) (.int (f j))).before args s = true) (hA : ∀ a : Nat, a < s.heap.size → ¬ A a) :
    ∃ t : Nat, va_Z C n "[I" (.ref t) A s s.heap ∧ t < s.heap.size ∧ ∃ cell : Cell, s.heap[t]? = some cell ∧ s.isArrayOf cell .int ∧ cell.vm ≠ .unknown ∧ cell.slots.size = N ∧ N < 2 ^ 31 ∧ ∀ j : Nat, j < N → cell.slots[j]? = some (.int (f j)) := by
  obtain ⟨t, cell, ht, hat, hsm, hv⟩ := ln_small (va_eqt hlen)
  obtain ⟨hcell, hkn, -, -⟩ := State.arrayAt?_spec hat
  obtain ⟨t', ht', cell', k1, k2, k3, k4, k5, k6, k7⟩ := va_Tof (A := A) (f := fun j => .int (f j)) hN harr (va_eqt hlen) (fun j hj => va_eqt (hel j hj)) hA
  cases ht.symm.trans ht'
  cases hcell.symm.trans k1
  refine ⟨t, va_Zof hl hini ht hA, (Array.getElem?_eq_some_iff.mp hcell).1, cell, hcell, k2, k3, ?_, hN, k6⟩
  have e := congrArg Int32.toNatClampNeg k5
  rw [show cell.slots.size.toInt32 = Int32.ofNat cell.slots.size from rfl, Int32.toNatClampNeg_ofNat_of_lt hsm, Int32.toNatClampNeg_ofNat_of_lt hN] at e
  exact e
theorem cl_inst : ∀ (ci : Nat) (q : vw_C), vwCl[ci]? = some q → Cond.instantiable q.1 q.2.2 ∈ gT
  | 0, q, h => by obtain ⟨q1, h1, -, h3, -⟩ := nX9_7; cases h1.symm.trans h; exact h3
  | 1, q, h => by obtain ⟨q1, h1, -, h3, -⟩ := nX5_41; cases h1.symm.trans h; exact h3
  | 2, q, h => by obtain ⟨q1, h1, -, h3, -⟩ := nX0_29; cases h1.symm.trans h; exact h3
  | 3, q, h => by obtain ⟨q1, h1, -, h3, -⟩ := nX0_68; cases h1.symm.trans h; exact h3
  | 4, q, h => by obtain ⟨q1, h1, -, h3, -⟩ := nX0_36; cases h1.symm.trans h; exact h3
  | 5, q, h => by obtain ⟨q1, h1, -, h3, -⟩ := nX0_7; cases h1.symm.trans h; exact h3
  | 6, q, h => by obtain ⟨q1, h1, -, h3, -⟩ := nX0_22; cases h1.symm.trans h; exact h3
  | 7, q, h => by obtain ⟨q1, h1, -, h3, -⟩ := nX5_13; cases h1.symm.trans h; exact h3
  | 8, q, h => by obtain ⟨q1, h1, -, h3, -⟩ := nL_7; cases h1.symm.trans h; exact h3
  | 9, q, h => by obtain ⟨q1, h1, -, h3, -⟩ := nL_10; cases h1.symm.trans h; exact h3
  | n + 10, q, h => by rw [List.getElem?_eq_none (by show 10 ≤ n + 10; omega)] at h; cases h
theorem cl_known {s : State} {args : Array Value} (htg : ∀ w ∈ gT, w.before args s = true) : ∃ G : va_G, ∀ (c : Nat) (q : vw_C), vwCl[c]? = some q → u_Kn s q.1 q.2.1 q.2.2 (G.1 c) (G.2 c) := by
  have h : ∀ c : Nat, ∃ (cC : ClassId) (iS : Nat → Nat), ∀ q : vw_C, vwCl[c]? = some q → u_Kn s q.1 q.2.1 q.2.2 cC iS := by
    intro c
    cases hq : vwCl[c]? with
    | none => exact ⟨(0 : Nat), fun _ => 0, fun q h => by cases h⟩
    | some q =>
      obtain ⟨cC, iS, hK⟩ := u_known htg (g_cl hq).2.1 (htg _ (cl_inst c q hq))
      exact ⟨cC, iS, fun q1 h => by cases h; exact hK⟩
  exact ⟨(fun c => (h c).choose, fun c => (h c).choose_spec.choose), fun c q hq => (h c).choose_spec.choose_spec q hq⟩
theorem ar_prim {s : State} {args : Array Value} {ty : FieldType} (h : (Cond.arrayClass ty).before args s = true) : ∃ cA : ClassId, ArrOfT s cA ty ∧ s.vm.findClass ("[" ++ ty.toString) = some cA := by
  obtain ⟨c, k, comp, h1, h2, h3⟩ := Cond.arrayClass_spec h
  exact ⟨c, fun n z => ⟨fun k h => (by cases h), k, h2, comp, h3⟩, h1⟩
theorem ar_obj {s : State} {C : String} (h : va_AO C s) : ∃ cA : ClassId, ArrOfT s cA (.object C) ∧ va_RA s cA (.object C) := by
  obtain ⟨comp, c, k, h1, h2, h3, h4, h5⟩ := Cond.arrayOver_spec h
  exact ⟨c, fun n z => ⟨fun k h => (by cases h), k, h3, comp, h4⟩, k, comp, h3, h4, h1, h5⟩
theorem ao_5 : Cond.arrayOver (.object RX5) ∈ lw_tbl := List.mem_of_getElem? (i := 114) (by decide +kernel)
theorem ao_6 : Cond.arrayOver (.object RX6) ∈ lw_tbl := List.mem_of_getElem? (i := 116) (by decide +kernel)
theorem ao_7 : Cond.arrayOver (.object RX7) ∈ lw_tbl := List.mem_of_getElem? (i := 93) (by decide +kernel)
theorem sb_new {s t : State} {L : List Loc} {k n k' n' : Nat} (h : s.sameButNew t L k n) (hL : ∀ x ∈ L, s.heap.size ≤ x.base) (hk : k ≤ k') (hn : n ≤ n') : s.sameButNew t [] k' n' := by
  obtain ⟨h1, h2, h3, h4, h5, h6⟩ := h
  refine ⟨h1, h2, Nat.le_trans h3 (Nat.add_le_add_left hk _), h4, Nat.le_trans h5 hn, fun a c hc => ?_⟩
  obtain ⟨c', g1, g2, g3, g4⟩ := h6 a c hc
  refine ⟨c', g1, g2, g3, fun i _ => g4 i fun hm => ?_⟩
  have q1 : s.heap.size ≤ a := hL _ hm
  have q2 : a < s.heap.size := (Array.getElem?_eq_some_iff.mp hc).1
  exact absurd q1 (Nat.not_le.mpr q2)
def wS (g : GE) : GW := ((eB g, 0), (fun _ => 0), (fun _ => 0), (fun _ _ => 0), (fun _ _ => none), (fun _ _ => 0), (fun _ _ => 0), (fun _ _ => none))
theorem Sh_wS (g : GE) : Sh g (wS g) vS0 := ⟨rfl, rfl, fun _ => rfl, fun _ => rfl, fun _ _ => rfl, fun _ _ => rfl, fun _ _ => rfl, fun _ _ => rfl, fun _ _ => rfl⟩
set_option maxHeartbeats 4000000 in
theorem start_of {p : Program} {e : Env} {s : State} {m : MethodId} {below : List Frame} {meth : Method} {c : Code} {g : GE} (hB : eB g = s.heap.size) (hx : p.tables.exec = Jvm.exec) (hb : c.code = code) (hr : meth.sig.returnType = ret) (hml : c.maxLocals = 8) (hown : s.vm.findClass R_law = some m.cls) (htg : ∀ w ∈ gT, w.before #[Value.ref (eO g 5)] s = true) (hlocks : meth.locks = false) (hnm : meth.name = "law") (hK : va_K (eG g) vwCl (gTys g) s) (hZ : gZs g s s.heap) (hAO : gAOs s) (hRo : ∀ i, i < 6 → gRo g i s s.heap) (hG : GT g) (hlen : eOL g 5 ≤ 2560) :
    W p (eL g) e room_1 s m #[Value.ref (eO g 5)] below meth c s.heap [] 0 0 (lw_Z below #[Value.ref (eO g 5)] s) (entryFrame m ([Value.ref (eO g 5)] : List Value).toArray 8) := by
  obtain ⟨r, w', ⟨hr1, hn1, hu1⟩, hn, hu, hGG⟩ := law_start (d := 300) (Q := fun r W => r = some (.int 1) ∧ gN W ≤ eB g + 400000 ∧ gU W ≤ 3000000) (by decide) hG hlen (Sh_wS g) (fun W a b => ⟨rfl, a, b⟩)
  have hw0 : gN (wS g) = eB g := rfl
  have he := lv_entry [Value.ref (eO g 5)] (n := 8) (Nat.le_of_ble_eq_true rfl)
  rw [lg_entry_eq]
  have hSt : gSt g (wS g) s s.heap := ⟨hB.symm, Nat.le_refl _, fun a h1 h2 => absurd h1 (Nat.not_le.mpr h2), hRo⟩
  have hWW := hGG p e room_1 s m #[Value.ref (eO g 5)] below meth c (gN (wS g)) 0 s.heap [] _ ⟨hx, hb, hml, hown, htg, hlocks, hr, hnm, hK, hZ, hAO, by decide, by decide⟩ (Nat.le_refl _) (Nat.zero_le _) (by show gN w' - gN (wS g) ≤ 600000; omega) (by show gU w' - 0 ≤ 7302250; omega) hSt va_S.rf he
  rw [Nat.sub_self] at hWW
  intro T hT X
  obtain ⟨t, st, o, h1, h2, ⟨ho, -, -⟩, Ls, ⟨hv, hW, hs⟩, hfree⟩ := hWW T hT X
  refine ⟨t, st, o, h1, h2, by rw [ho, hr1], ?_⟩
  have hs' := sb_new (k' := 600000) (n' := 7302250) hs (fun x hx2 => by rw [← hB]; exact hfree x hx2) (by omega) (by omega)
  exact lw_closed (d0 := s.drawn) (Drawn.sameBut.refl _ _) hv hW hs'
set_option maxHeartbeats 4000000 in
/-- from the entry, for every script of at most 2560 ints, the law comes to its end with true -/
theorem whole_start {p : Program} {e : Env} {s : State} {m : MethodId} {below : List Frame} {meth : Method} {c : Code} (l : Launch) {b L : Nat} {xs : Nat → Int32} (hL : L ≤ 2560) (hnm : meth.name = "law") (C0 : lw_At p s m meth c b L xs) : W p l e room_1 s m #[Value.ref b] below meth c s.heap [] 0 0 (lw_Z below #[Value.ref b] s) (entryFrame m ([Value.ref b] : List Value).toArray 8) := by
  obtain ⟨hx, hb, hr, hml, hown, hts, hX, hbl, hlocks, hgv⟩ := id C0
  have htg : ∀ w ∈ gT, w.before #[Value.ref b] s = true := fun w hw => hts w (List.mem_filter.mp hw).1
  have hA : ∀ a : Nat, a < s.heap.size → ¬ (s.heap.size ≤ a) := fun a h1 h2 => by omega
  have hf := flat_of_before _ hgv
  obtain ⟨t0, z0, l0, r0⟩ := st_arr (C := "GaugeBench$Step") (n := "LEAST_A") (f := tLA) (A := fun q => s.heap.size ≤ q) (N := 25) (by decide) (hts _ sa_ls0) (hts _ sa_in0) (hf _ sa_am0) (hf _ sa_ln0) (fun j hj => hf _ (sa_el0 j hj)) hA
  obtain ⟨t1, z1, l1, r1⟩ := st_arr (C := "GaugeBench$Step") (n := "MOST_A") (f := tMA) (A := fun q => s.heap.size ≤ q) (N := 25) (by decide) (hts _ sa_ls1) (hts _ sa_in1) (hf _ sa_am1) (hf _ sa_ln1) (fun j hj => hf _ (sa_el1 j hj)) hA
  obtain ⟨t2, z2, l2, r2⟩ := st_arr (C := "GaugeBench$Step") (n := "MOST_B") (f := tMB) (A := fun q => s.heap.size ≤ q) (N := 25) (by decide) (hts _ sa_ls2) (hts _ sa_in2) (hf _ sa_am2) (hf _ sa_ln2) (fun j hj => hf _ (sa_el2 j hj)) hA
  obtain ⟨t3, z3, l3, r3⟩ := st_arr (C := "GaugeBench$Step") (n := "MOST_C") (f := tMC) (A := fun q => s.heap.size ≤ q) (N := 25) (by decide) (hts _ sa_ls3) (hts _ sa_in3) (hf _ sa_am3) (hf _ sa_ln3) (fun j hj => hf _ (sa_el3 j hj)) hA
  obtain ⟨t4, z4, l4, r4⟩ := st_arr (C := "GaugeBench$Fault") (n := "ABOVE") (f := aTab) (A := fun q => s.heap.size ≤ q) (N := 12) (by decide) (hts _ sa_ls4) (hts _ sa_in4) (hf _ sa_am4) (hf _ sa_ln4) (fun j hj => hf _ (sa_el4 j hj)) hA
  obtain ⟨G, hKc⟩ := cl_known htg
  have hAO : gAOs s := ⟨va_AO.of (hts _ ao_5), va_AO.of (hts _ ao_6), va_AO.of (hts _ ao_7)⟩
  obtain ⟨k10, a10, b10⟩ := ar_prim (htg _ ac_double)
  obtain ⟨k11, a11, b11⟩ := ar_prim (htg _ ac_int)
  obtain ⟨k12, a12, b12⟩ := ar_prim (htg _ ac_boolean)
  obtain ⟨k13, a13, b13⟩ := ar_obj hAO.1
  obtain ⟨k14, a14, b14⟩ := ar_obj hAO.2.1
  obtain ⟨k15, a15, b15⟩ := ar_obj hAO.2.2
  obtain ⟨scr, x1, x2, x3, x4, x5⟩ := hX
  refine start_of (g := (l, G, (fun k => match k with | 10 => k10 | 11 => k11 | 12 => k12 | 13 => k13 | 14 => k14 | _ => k15), s.heap.size, (fun i => match i with | 0 => t0 | 1 => t1 | 2 => t2 | 3 => t3 | 4 => t4 | _ => b), (fun i => match i with | 0 => 25 | 1 => 25 | 2 => 25 | 3 => 25 | 4 => 12 | _ => L), (fun i => match i with | 0 => tLA | 1 => tMA | 2 => tMB | 3 => tMC | 4 => aTab | _ => xs))) rfl hx hb hr hml hown htg hlocks hnm ⟨hKc, fun k q hq => ?_⟩ (fun i hi => ?_) hAO (fun i hi => ?_) ⟨⟨⟨rfl, fun _ _ => rfl⟩, ⟨rfl, fun _ _ => rfl⟩, ⟨rfl, fun _ _ => rfl⟩, ⟨rfl, fun _ _ => rfl⟩⟩, rfl, fun _ _ => rfl⟩ hL
  · match k, hq with
    | 0, hq => cases hq; exact ⟨a10, b10⟩
    | 1, hq => cases hq; exact ⟨a11, b11⟩
    | 2, hq => cases hq; exact ⟨a12, b12⟩
    | 3, hq => cases hq; exact ⟨a13, b13⟩
    | 4, hq => cases hq; exact ⟨a14, b14⟩
    | 5, hq => cases hq; exact ⟨a15, b15⟩
    | k + 6, hq => rw [List.getElem?_eq_none (by show 6 ≤ k + 6; omega)] at hq; cases hq
  · match i, hi with
    | 0, _ => exact z0
    | 1, _ => exact z1
    | 2, _ => exact z2
    | 3, _ => exact z3
    | 4, _ => exact z4
    | i + 5, hi => exact absurd hi (by omega)
  · match i, hi with
    | 0, _ => exact ⟨l0, r0⟩
    | 1, _ => exact ⟨l1, r1⟩
    | 2, _ => exact ⟨l2, r2⟩
    | 3, _ => exact ⟨l3, r3⟩
    | 4, _ => exact ⟨l4, r4⟩
    | 5, _ => exact ⟨hbl, scr, x1, x2, x3, x4, by show L < 2 ^ 31; omega, x5⟩
    | i + 6, hi => exact absurd hi (by omega)
