theorem gZs.moved {g : GE} {u U : State} {H : Heap} (hvm : u.vm.Alike U.vm) (h : gZs g u H) : gZs g U H := fun i hi => (h i hi).moved hvm
theorem gZs.kept {g : GE} {U : State} {H H1 : Heap} (h : gZs g U H) (hq : ∀ a : Nat, a < H.size → ¬ gFr g a → H1[a]? = H[a]?) : gZs g U H1 := fun i hi => (h i hi).kept hq
theorem gAOs.moved {u U : State} (hvm : u.vm.Alike U.vm) (h : gAOs u) : gAOs U := ⟨h.1.moved hvm, h.2.1.moved hvm, h.2.2.moved hvm⟩
theorem gPre.moved {g : GE} {w : GW} {u U : State} (hvm : u.vm.Alike U.vm) (hh : U.heap = u.heap) (h : gPre g w u) : gPre g w U := by
  obtain ⟨a1, a2, a3, a4⟩ := h
  unfold gPre
  rw [hh]
  exact ⟨a1.moved hvm, va_K.moved hvm a2, a3.moved hvm, a4.moved hvm⟩
theorem gBlind (g : GE) (w : GW) (as : List Value) : FrameBlind (va_Pc as (gPre g w)) := by
  intro a U gg mk h
  obtain ⟨h1, h2⟩ := h
  exact ⟨h1, gPre.moved (u := U) (U := U.calling gg mk a) (Vm.Alike.refl U.vm) rfl h2⟩
/-- what a frame knows, said of a state that its callee starts in -/
theorem gPre.of {g : GE} {w : GW} {s U : State} {H : Heap} {locs : List Loc} (h5 : gSt g w s H) (h6 : va_S (gFr g) s.heap H locs) (hK : va_K (eG g) vwCl (gTys g) s) (hZ : gZs g s s.heap) (hAO : gAOs s) (hU : U.heap = H) (hW : s.WarmedH U.vm) : gPre g w U := by
  unfold gPre
  rw [hU]
  exact ⟨h5.moved hW.alike, va_K.moved hW.alike hK, (hZ.kept (fun a h1 h2 => h6.2.1 a h1 h2)).moved hW.alike, hAO.moved hW.alike⟩
/-- behind a call -/
theorem g_run {p : Program} {l : Launch} {e : Env} {R : Room} {s : State} {m : MethodId} {args : Array Value} {below : List Frame} {meth : Method} {c : Code} {H : Heap} {locs : List Loc} {cells slots mc ms pc : Nat} {Q : State → Prop} {lsA : Array Slot} {rest st0 : List Value} {aa : Array Value} {g : GE} {r : Option Value} {w1 : GW}
    (hr : va_Run p l e R s m args below meth c H locs cells slots mc ms (F0 m pc lsA st0) rest (gPost g r w1 aa) (gFr g)) (hS : va_S (gFr g) s.heap H locs)
    (kk : ∀ (H1 : Heap) (locs1 : List Loc), gSt g w1 s H1 → va_S (gFr g) s.heap H1 locs1 → W p l e R s m args below meth c H1 locs1 (cells + mc) (slots + ms) Q (F0 m (pc + 3) lsA (r.toList ++ rest))) : W p l e R s m args below meth c H locs cells slots Q (F0 m pc lsA st0) := by
  intro T hT X
  obtain ⟨v, st₀, t, T', L, h0, X', hL, e1, e2, ⟨hv, hst, hz, hk⟩, stp⟩ := hr T hT X
  cases hv
  rw [h0] at hz hk
  have hal : s.vm.Alike t.vm := by rw [← e2]; exact X'.warmed.alike
  obtain ⟨t2, a1, b1⟩ := kk T'.heap (locs ++ L) (by rw [e1]; exact hst.moved hal.symm)
    ⟨Nat.le_trans hS.1 (by rw [e1]; exact hz), fun q h1 h2 => by rw [e1, hk q (Nat.lt_of_lt_of_le h1 hS.1) h2]; exact hS.2.1 q h1 h2, fun q hq => by
      rcases List.mem_append.mp hq with h | h
      · exact hS.2.2 q h
      · exact hL q h⟩ T' rfl X'
  exact ⟨t2, stp t2 a1, b1⟩
/-- the words of a call of an object's method: the class ci of the receiver, n arguments behind it -/
def gcv (own : String) (idx : Nat) (Y1 : GM) (ci n : Nat) : Prop := (∃ q : vw_C, vwCl[ci]? = some q ∧ q.1 = Y1.1.cls) ∧ (∀ w ∈ wsV own idx Y1.1.cls Y1.1 [Cond.code Y1.1 Y1.2.1 Y1.2.2.1 Y1.2.2.2], w ∈ gT) ∧ (Y1.1.cls ≠ "java/lang/invoke/MethodHandle" ∧ Y1.1.cls ≠ "java/lang/invoke/VarHandle" ∧ (parseMethodDescriptor Y1.1.desc).map (fun d => d.parameters.length) = some n) ∧ Y1.2.2.1 ≤ 45
def gcs (own : String) (idx : Nat) (Y1 : GM) (n : Nat) : Prop := (∀ w ∈ va_wsS own idx Y1.1 [Cond.code Y1.1 Y1.2.1 Y1.2.2.1 Y1.2.2.2], w ∈ gT) ∧ (Y1.1.cls ≠ "java/lang/invoke/MethodHandle" ∧ Y1.1.cls ≠ "java/lang/invoke/VarHandle" ∧ (parseMethodDescriptor Y1.1.desc).map (fun d => d.parameters.length) = some n) ∧ Y1.2.2.1 ≤ 45
def gci (own : String) (idx : Nat) (Y1 : GM) (n : Nat) : Prop := (∀ w ∈ ([Cond.initialized Y1.1.cls, Cond.methodLink own idx Y1.1, Cond.instanceMethod Y1.1, Cond.code Y1.1 Y1.2.1 Y1.2.2.1 Y1.2.2.2] : List Cond), w ∈ gT) ∧ (Y1.1.cls ≠ "java/lang/invoke/MethodHandle" ∧ Y1.1.cls ≠ "java/lang/invoke/VarHandle" ∧ (parseMethodDescriptor Y1.1.desc).map (fun d => d.parameters.length) = some n) ∧ Y1.2.2.1 ≤ 45 ∧ Y1.1.name = "<init>" ∧ Y1.2.2.2 = none
theorem g_good {ws : List Cond} (h : ∀ w ∈ ws, w ∈ gT) : GoodIn gT ws := fun w hw => ⟨h w hw, gAll w (h w hw)⟩
theorem g_callV {g : GE} {d : Nat} {Y : GM} {pc : Nat} {ls : List (Nat × Value)} {st : List Value} {w : GW} {Q : Option Value → GW → Prop} {Y1 : GM} {d1 idx a n : Nat} {As stk : List Value} (ci : Nat) (hd : decode Y.2.1 pc = .ok (.invokevirtual idx, 3)) (hw : gcv Y.1.cls idx Y1 ci n) (hd1 : d1 + 1 ≤ d) (ha : gOb g w a ci) (hn : As.length = n) (hs : stk = As.reverse ++ .ref a :: st) (hsum : (st.map fun v => v.category).sum ≤ 8) (hM : gM g d1 Y1 (.ref a :: As) w (fun r w1 => gF g d Y (pc + 3) ls (r.toList ++ st) w1 Q)) : gF g d Y pc ls stk w Q := by
  obtain ⟨r1, w1, ⟨r, w', hq, hn1, hu1, hG⟩, hn0, hu0, hMet⟩ := hM
  refine ⟨r, w', hq, Nat.le_trans hn0 hn1, Nat.le_trans hu0 hu1, ?_⟩
  intro p e R s m args below meth c n0 u0 H locs lsA C h1 h2 h3 h4 h5 h6 h7
  obtain ⟨hx, hb, hml, hown, hts, hlk, hrt, hnm, hK, hZ, hAO, hdf, hdl⟩ := id C
  obtain ⟨⟨qc, hqc, hcn⟩, hws, ⟨hm1, hm2, hm3⟩, hm45⟩ := hw
  obtain ⟨z1, z2, z3, z4, z5⟩ := g_cl hqc
  obtain ⟨cell, q1, q2, q3, -⟩ := (h5.2.2.1 a ha.1 ha.2.1).obj ha.2.2 z5
  have hG0 : GoodIn gT (wsV Y.1.cls idx Y1.1.cls Y1.1 (gWs Y1)) := by
    refine g_good (fun w hw2 => ?_)
    unfold wsV gWs at hw2
    rcases List.mem_append.mp hw2 with h | h
    · exact hws w (by unfold wsV; exact List.mem_append_left _ h)
    · rcases List.mem_cons.mp h with rfl | h
      · exact hws _ (by unfold wsV; exact List.mem_append_right _ List.mem_cons_self)
      · exact h
  have hcw := cwV (R := R) (rm := gRm d1 (gN w1 - gN w) (gU w1 - gU w)) n hts hG0 rfl rfl rfl ⟨rfl, hm1, hm2, hm3⟩ ⟨Nat.le_trans hd1 hdf, by show 8 + (Y1.2.2.1 + 11) + 64 * d1 ≤ R.locals; omega⟩
  subst hs
  refine g_run (va_runV (As := As) (rest := st) ⟨hx, hb, hml, hown, hts⟩ hMet hcw ⟨gBlind g w _, ⟨cell, q1, by rw [q3]; rfl, by rw [q2, ← hcn]; exact (hK.1 ci _ hqc).2.1⟩, fun U hU hW => ⟨rfl, gPre.of h5 h6 hK hZ hAO hU hW⟩⟩ rfl hn h7.1 rfl (lv_room hsum) hd ⟨by omega, by omega⟩) h6 (fun H1 locs1 y1 y2 => ?_)
  rw [show gN w - n0 + (gN w1 - gN w) = gN w1 - n0 by omega, show gU w - u0 + (gU w1 - gU w) = gU w1 - u0 by omega]
  exact hG p e R s m args below meth c n0 u0 H1 locs1 lsA C (by omega) (by omega) h3 h4 y1 y2 h7
theorem g_callS {g : GE} {d : Nat} {Y : GM} {pc : Nat} {ls : List (Nat × Value)} {st : List Value} {w : GW} {Q : Option Value → GW → Prop} {Y1 : GM} {d1 idx n : Nat} {As stk : List Value} (hd : decode Y.2.1 pc = .ok (.invokestatic idx, 3)) (hw : gcs Y.1.cls idx Y1 n) (hd1 : d1 + 1 ≤ d) (hn : As.length = n) (hs : stk = As.reverse ++ st) (hsum : (st.map fun v => v.category).sum ≤ 8) (hM : gM g d1 Y1 As w (fun r w1 => gF g d Y (pc + 3) ls (r.toList ++ st) w1 Q)) : gF g d Y pc ls stk w Q := by
  obtain ⟨r1, w1, ⟨r, w', hq, hn1, hu1, hG⟩, hn0, hu0, hMet⟩ := hM
  refine ⟨r, w', hq, Nat.le_trans hn0 hn1, Nat.le_trans hu0 hu1, ?_⟩
  intro p e R s m args below meth c n0 u0 H locs lsA C h1 h2 h3 h4 h5 h6 h7
  obtain ⟨hx, hb, hml, hown, hts, hlk, hrt, hnm, hK, hZ, hAO, hdf, hdl⟩ := id C
  obtain ⟨hws, ⟨hm1, hm2, hm3⟩, hm45⟩ := hw
  have hG0 : GoodIn gT (va_wsS Y.1.cls idx Y1.1 (gWs Y1)) := by
    refine g_good (fun w hw2 => ?_)
    unfold va_wsS gWs at hw2
    rcases List.mem_append.mp hw2 with h | h
    · exact hws w (by unfold va_wsS; exact List.mem_append_left _ h)
    · rcases List.mem_cons.mp h with rfl | h
      · exact hws _ (by unfold va_wsS; exact List.mem_append_right _ List.mem_cons_self)
      · exact h
  have hcw := va_cwS (R := R) (rm := gRm d1 (gN w1 - gN w) (gU w1 - gU w)) n hts hG0 rfl rfl rfl ⟨hm1, hm2, hm3⟩ ⟨Nat.le_trans hd1 hdf, by show 8 + (Y1.2.2.1 + 11) + 64 * d1 ≤ R.locals; omega⟩
  subst hs
  refine g_run (va_runS (As := As) (rest := st) ⟨hx, hb, hml, hown, hts⟩ hMet hcw ⟨gBlind g w _, fun U hU hW => ⟨rfl, gPre.of h5 h6 hK hZ hAO hU hW⟩⟩ rfl hn h7.1 rfl (lv_room hsum) hd ⟨by omega, by omega⟩) h6 (fun H1 locs1 y1 y2 => ?_)
  rw [show gN w - n0 + (gN w1 - gN w) = gN w1 - n0 by omega, show gU w - u0 + (gU w1 - gU w) = gU w1 - u0 by omega]
  exact hG p e R s m args below meth c n0 u0 H1 locs1 lsA C (by omega) (by omega) h3 h4 y1 y2 h7
theorem g_callI {g : GE} {d : Nat} {Y : GM} {pc : Nat} {ls : List (Nat × Value)} {st : List Value} {w : GW} {Q : Option Value → GW → Prop} {y1 : MethodName} {c1 : ByteArray} {l1 d1 idx a n : Nat} {As stk : List Value} (hd : decode Y.2.1 pc = .ok (.invokespecial idx, 3)) (hw : gci Y.1.cls idx (y1, c1, l1, none) n) (hd1 : d1 + 1 ≤ d) (hn : As.length = n) (hs : stk = As.reverse ++ .ref a :: st) (hsum : (st.map fun v => v.category).sum ≤ 8) (hM : gM g d1 (y1, c1, l1, none) (.ref a :: As) w (fun r w1 => gF g d Y (pc + 3) ls (r.toList ++ st) w1 Q)) : gF g d Y pc ls stk w Q := by
  obtain ⟨r1, w1, ⟨r, w', hq, hn1, hu1, hG⟩, hn0, hu0, hMet⟩ := hM
  refine ⟨r, w', hq, Nat.le_trans hn0 hn1, Nat.le_trans hu0 hu1, ?_⟩
  intro p e R s m args below meth c n0 u0 H locs lsA C h1 h2 h3 h4 h5 h6 h7
  obtain ⟨hx, hb, hml, hown, hts, hlk, hrt, hnm, hK, hZ, hAO, hdf, hdl⟩ := id C
  obtain ⟨hws, ⟨hm1, hm2, hm3⟩, hm45, hnmi, -⟩ := hw
  have hG0 : GoodIn gT (gWs (y1, c1, l1, none)) := by
    refine g_good (fun w hw2 => ?_)
    unfold gWs at hw2
    rcases List.mem_cons.mp hw2 with rfl | h
    · exact hws _ (by simp)
    · exact h
  have hcw := cwI (R := R) (rm := gRm d1 (gN w1 - gN w) (gU w1 - gU w)) n hts hG0 rfl rfl rfl (hts _ (hws _ (by simp))) (hts _ (hws (Cond.methodLink Y.1.cls idx y1) (by simp))) (hts _ (hws (Cond.instanceMethod y1) (by simp))) hnmi ⟨hm1, hm2, hm3⟩ ⟨Nat.le_trans hd1 hdf, by show 8 + (l1 + 11) + 64 * d1 ≤ R.locals; have : l1 ≤ 45 := hm45; omega⟩
  subst hs
  refine g_run (va_runI (As := As) (rest := st) ⟨hx, hb, hml, hown, hts⟩ hMet hcw ⟨gBlind g w _, fun U hU hW => ⟨rfl, gPre.of h5 h6 hK hZ hAO hU hW⟩⟩ rfl hn h7.1 rfl (lv_room hsum) hd ⟨by omega, by omega⟩) h6 (fun H1 locs1 y1 y2 => ?_)
  rw [show gN w - n0 + (gN w1 - gN w) = gN w1 - n0 by omega, show gU w - u0 + (gU w1 - gU w) = gU w1 - u0 by omega]
  exact hG p e R s m args below meth c n0 u0 H1 locs1 lsA C (by omega) (by omega) h3 h4 y1 y2 h7
theorem g_objInit {g : GE} {d : Nat} {Y : GM} {pc : Nat} {ls : List (Nat × Value)} {st : List Value} {w : GW} {Q : Option Value → GW → Prop} {idx a : Nat} (hd : decode Y.2.1 pc = .ok (.invokespecial idx, 3)) (hw : ∀ w ∈ ([Cond.methodLink Y.1.cls idx objectInit, Cond.instanceMethod objectInit, Cond.code objectInit ⟨#[0xb1]⟩ 1 none] : List Cond), w ∈ gT) (hd1 : 1 ≤ d) (hsum : (st.map fun v => v.category).sum ≤ 8) (k : gF g d Y (pc + 3) ls st w Q) : gF g d Y pc ls (.ref a :: st) w Q := by
  refine k.pure fun r w' h => ?_
  intro p e R s m args below meth c n0 u0 H locs lsA C h1 h2 h3 h4 h5 h6 h7
  obtain ⟨hx, hb, hml, hown, hts, hlk, hrt, hnm, hK, hZ, hAO, hdf, hdl⟩ := id C
  refine W.objInit hx hb hown (hts _ (hw _ (by simp))) (hts _ (hw _ (by simp))) (hts _ (hw _ (by simp))) rfl (by rw [hml]; exact h7.1) rfl hd (by omega) ?_ (h p e R s m args below meth c n0 u0 H locs lsA C h1 h2 h3 h4 h5 h6 h7)
  have := lv_room (m := m) (pc := pc) (ls := lsA) (rest := Value.ref a :: st) hsum
  omega
/-- a method's contract out of its body -/
theorem gM.of {g : GE} {d : Nat} {Y : GM} {as : List Value} {w : GW} {Q : Option Value → GW → Prop} (hp : plainName Y.1.cls = true) (hl : (lg_sl as).length ≤ Y.2.2.1) (h : gF g d Y 0 (lv_args 0 as) [] w Q) : gM g d Y as w Q := by
  obtain ⟨r, w', hq, hn, hu, hG⟩ := h
  refine ⟨r, w', hq, hn, hu, ?_⟩
  refine Met.ofW (cc := Y.2.1) (maxL := Y.2.2.1) (ret := Y.2.2.2) hp rfl ?_
  intro p e s m args below meth c s₁ B hml hv
  obtain ⟨rfl, h5, hK, hZ, hAO⟩ := hv
  have hts := atoms_spec (ws := gWs Y) B.pre
  have he := lv_entry as (n := Y.2.2.1) hl
  rw [lg_entry_eq]
  have hWW := hG p e (headSpec (gWs Y) (gRm d (gN w' - gN w) (gU w' - gU w))).room s m _ below meth c (gN w) (gU w) s.heap [] _ ⟨B.exec, B.bytes, hml, findClass_of_methodNamed B.named, fun w hw => hts w (List.mem_cons_of_mem _ hw), B.notSynchronized, B.returns, (name_of_methodNamed B.named B.method).1, hK, hZ, hAO, Nat.le_refl _, Nat.le_refl _⟩ (Nat.le_refl _) (Nat.le_refl _) (Nat.le_refl _) (Nat.le_refl _) h5 va_S.rf he
  rw [Nat.sub_self, Nat.sub_self] at hWW
  exact hWW
