theorem inX0 : ∀ w ∈ u_ws RX0 TX0 9, w ∈ gT := by decide +kernel
theorem inX1 : ∀ w ∈ u_ws RX1 TX1 4, w ∈ gT := by decide +kernel
theorem inX2 : ∀ w ∈ u_ws RX2 TX2 1, w ∈ gT := by decide +kernel
theorem inX3 : ∀ w ∈ u_ws RX3 TX3 6, w ∈ gT := by decide +kernel
theorem inX4 : ∀ w ∈ u_ws RX4 TX4 2, w ∈ gT := by decide +kernel
theorem inX5 : ∀ w ∈ u_ws RX5 TX5 5, w ∈ gT := by decide +kernel
theorem inX6 : ∀ w ∈ u_ws RX6 TX6 4, w ∈ gT := by decide +kernel
theorem inX7 : ∀ w ∈ u_ws RX7 TX7 8, w ∈ gT := by decide +kernel
theorem inX9 : ∀ w ∈ u_ws RX9 TX9 1, w ∈ gT := by decide +kernel
theorem inX10 : ∀ w ∈ u_ws RX10 TX10 40, w ∈ gT := by decide +kernel
theorem g_cl {ci : Nat} {q : vw_C} (h : vwCl[ci]? = some q) : q.2.2 = gNF ci ∧ (∀ w ∈ u_ws q.1 q.2.1 q.2.2, w ∈ gT) ∧ (∀ k, k < q.2.2 → parseFieldDescriptor (q.2.1 k).2.2.1 = some (gTy ci k)) ∧ (∀ a, a < q.2.2 → ∀ b, b < q.2.2 → a ≠ b → (q.2.1 a).2.1 ≠ (q.2.1 b).2.1) ∧ ci < 10 := by
  match ci, h with
  | 0, h => cases h; exact ⟨rfl, inX0, tyX0_ok, nmX0, by decide⟩
  | 1, h => cases h; exact ⟨rfl, inX1, tyX1_ok, nmX1, by decide⟩
  | 2, h => cases h; exact ⟨rfl, inX2, tyX2_ok, nmX2, by decide⟩
  | 3, h => cases h; exact ⟨rfl, inX3, tyX3_ok, nmX3, by decide⟩
  | 4, h => cases h; exact ⟨rfl, inX4, tyX4_ok, nmX4, by decide⟩
  | 5, h => cases h; exact ⟨rfl, inX5, tyX5_ok, nmX5, by decide⟩
  | 6, h => cases h; exact ⟨rfl, inX6, tyX6_ok, nmX6, by decide⟩
  | 7, h => cases h; exact ⟨rfl, inX7, tyX7_ok, nmX7, by decide⟩
  | 8, h => cases h; exact ⟨rfl, inX9, tyX9_ok, nmX9, by decide⟩
  | 9, h => cases h; exact ⟨rfl, inX10, tyX10_ok, nmX10, by decide⟩
  | ci + 10, h => simp [vwCl] at h
/-- the field that a pool entry names: of class ci, number k; final or not -/
def gfl (own : String) (idx ci k : Nat) (fin : Bool) : Prop := ∃ q : vw_C, vwCl[ci]? = some q ∧ k < q.2.2 ∧ Cond.fieldLink own idx (q.2.1 k).1 (q.2.1 k).2.1 (q.2.1 k).2.2.1 ∈ gT ∧ (q.2.1 k).2.2.2 = fin ∧ (q.2.1 k).1 = q.1
/-- an object of class ci of ours -/
def gOb (g : GE) (w : GW) (a ci : Nat) : Prop := eB g ≤ a ∧ a < gN w ∧ gK w a = ci
theorem gAt.kept {g : GE} {w : GW} {a : Nat} {H H1 : Heap} (h : gAt g w a H) (hk : H1[a]? = H[a]?) : gAt g w a H1 := by
  rcases h with ⟨h1, h2⟩ | ⟨h1, h2, h3, h4⟩
  · exact Or.inl ⟨h1, h2.kept hk⟩
  · exact Or.inr ⟨h1, h2, h3, by rw [hk]; exact h4⟩
theorem gAt.same {g : GE} {w w1 : GW} {a : Nat} {H : Heap} (h : gAt g w a H) (hK : gK w1 a = gK w a) (hL : gL w1 a = gL w a) (hV : ∀ ci k, gV w1 ci a k = gV w ci a k) (hE : ∀ kd j, gE w1 kd a j = gE w kd a j) : gAt g w1 a H := by
  unfold gAt
  rw [hK, hL]
  have e1 : gV w1 (gK w a) a = gV w (gK w a) a := funext (hV _)
  have e2 : gE w1 (gK w a) a = gE w (gK w a) a := funext (hE _)
  rw [e1, e2]
  exact h
theorem gAt.obj {g : GE} {w : GW} {a ci : Nat} {H : Heap} (h : gAt g w a H) (hK : gK w a = ci) (hc : ci < 10) : t_OB a ((eG g).1 ci) (gNF ci) ((eG g).2 ci) H (gV w ci a) := by
  rcases h with ⟨h1, h2⟩ | ⟨h1, h2, h3, h4⟩
  · rw [hK] at h2; exact h2
  · omega
theorem gAt.arr {g : GE} {w : GW} {a kd : Nat} {H : Heap} (h : gAt g w a H) (hK : gK w a = kd) (hc : 10 ≤ kd) : gL w a < 2 ^ 31 ∧ H[a]? = some (arrV (eC g kd) (gL w a) (gE w kd a)) := by
  rcases h with ⟨h1, h2⟩ | ⟨h1, h2, h3, h4⟩
  · omega
  · rw [hK] at h4; exact ⟨h3, h4⟩
theorem gRo.kept {g : GE} {i : Nat} {U : State} {H H1 : Heap} (h : gRo g i U H) (hk : ∀ q, q < eB g → q < H.size → H1[q]? = H[q]?) : gRo g i U H1 := by
  obtain ⟨h1, cell, h2, h3⟩ := h
  exact ⟨h1, cell, by rw [hk _ h1 (Array.getElem?_eq_some_iff.mp h2).1]; exact h2, h3⟩
theorem gRo.moved {g : GE} {i : Nat} {u U : State} {H : Heap} (hvm : u.vm.Alike U.vm) (h : gRo g i u H) : gRo g i U H := by
  obtain ⟨h1, cell, h2, h3, h4⟩ := h
  exact ⟨h1, cell, h2, State.isArrayOf_alike hvm h3, h4⟩
theorem gSt.moved {g : GE} {w : GW} {u U : State} {H : Heap} (hvm : u.vm.Alike U.vm) (h : gSt g w u H) : gSt g w U H := ⟨h.1, h.2.1, h.2.2.1, fun i hi => (h.2.2.2 i hi).moved hvm⟩
/-- one cell of ours is written -/
theorem gSt.put {g : GE} {w w1 : GW} {U : State} {H H1 : Heap} {a : Nat} (h : gSt g w U H) (hB : eB g ≤ a) (hz : H1.size = H.size) (ho : ∀ q, q ≠ a → H1[q]? = H[q]?) (hn : gN w1 = gN w) (hs : ∀ x, x ≠ a → gAt g w x H → gAt g w1 x H) (ha : gAt g w1 a H1) : gSt g w1 U H1 := by
  refine ⟨by rw [hz, hn]; exact h.1, by rw [hn]; exact h.2.1, fun x hx hx2 => ?_, fun i hi => (h.2.2.2 i hi).kept (fun q hq _ => ho q (by omega))⟩
  by_cases e : x = a
  · subst e; exact ha
  · exact (hs x e (h.2.2.1 x hx (by rw [← hn]; exact hx2))).kept (ho x e)
/-- one cell comes -/
theorem gSt.push {g : GE} {w w1 : GW} {U : State} {H H1 : Heap} (h : gSt g w U H) (hz : H1.size = H.size + 1) (ho : ∀ q, q < H.size → H1[q]? = H[q]?) (hn : gN w1 = gN w + 1) (hs : ∀ x, x < gN w → gAt g w x H → gAt g w1 x H) (ha : gAt g w1 (gN w) H1) : gSt g w1 U H1 := by
  have h1 := h.1
  have h2 := h.2.1
  refine ⟨by rw [hz, hn, h1], by rw [hn]; omega, fun x hx hx2 => ?_, fun i hi => (h.2.2.2 i hi).kept (fun q hq hq2 => ho q hq2)⟩
  by_cases e : x = gN w
  · subst e; exact ha
  · exact (hs x (by omega) (h.2.2.1 x hx (by omega))).kept (ho x (by omega))
theorem gS.put {g : GE} {H0 H H1 : Heap} {locs : List Loc} {a k : Nat} (h : va_S (gFr g) H0 H locs) (hB : eB g ≤ a) (hz : H1.size = H.size) (ho : ∀ q, q ≠ a → H1[q]? = H[q]?) : va_S (gFr g) H0 H1 (locs ++ [⟨a, k⟩]) := h.put hz ho hB
theorem gS.push {g : GE} {H0 H H1 : Heap} {locs : List Loc} (h : va_S (gFr g) H0 H locs) (hz : H1.size = H.size + 1) (ho : ∀ q, q < H.size → H1[q]? = H[q]?) : va_S (gFr g) H0 H1 locs :=
  ⟨Nat.le_trans h.1 (by omega), fun x h1 h2 => (ho x (Nat.lt_of_lt_of_le h1 h.1)).trans (h.2.1 x h1 h2), h.2.2⟩
theorem gV_I {w : GW} {ci a k : Nat} (h : gTI ci k = true) : gV w ci a k = .int (gI w (64 * ci + k) a) := by simp only [gV, if_pos h]
theorem gV_R {w : GW} {ci a k : Nat} (h : gTI ci k = false) : gV w ci a k = va_rf (gR w (64 * ci + k) a) := by simp [gV, h]
theorem g_getI {g : GE} {d : Nat} {Y : GM} {pc : Nat} {ls : List (Nat × Value)} {st : List Value} {w : GW} {Q : Option Value → GW → Prop} {idx a : Nat} (ci k cc : Nat) {fin : Bool} (hd : decode Y.2.1 pc = .ok (.getfield idx, 3)) (hf : gfl Y.1.cls idx ci k fin) (hti : gTI ci k = true) (hcc : 64 * ci + k = cc) (ha : gOb g w a ci) (kk : gF g d Y (pc + 3) ls (.int (gI w cc a) :: st) w Q) : gF g d Y pc ls (.ref a :: st) w Q := by
  subst hcc
  refine kk.pure fun r w' h => ?_
  intro p e R s m args below meth c n0 u0 H locs lsA C h1 h2 h3 h4 h5 h6 h7
  obtain ⟨hx, hb, hml, hown, hts, hlk, hrt, hnm, hK, hZ, hAO, hdf, hdl⟩ := id C
  obtain ⟨hB, hN, hKa⟩ := ha
  have hat := h5.2.2.1 a hB hN
  obtain ⟨qc, hq, hkN, hlink, hfin, hcl⟩ := hf
  obtain ⟨z1, z2, z3, z4, z5⟩ := g_cl hq
  obtain ⟨cell, q1, q2, q3, q4⟩ := hat.obj hKa z5
  obtain ⟨hSl, hfc, kC, hkC, hkind⟩ := hK.1 ci _ hq
  obtain ⟨cf, kf, fi, f, hi, hsl⟩ := hSl k hkN
  refine W.getf hx hb hown (hts _ hlink) hi (u_facts hfc hkC (u_lays hts z2 hkN) hi).1 q1 (by rw [q3]; exact fun h => by cases h) (v := .int (gI w (64 * ci + k) a)) ?_ rfl rfl hd (h p e R s m args below meth c n0 u0 H locs lsA C h1 h2 h3 h4 h5 h6 h7)
  rw [hsl, q4 k (by rw [← z1]; exact hkN), gV_I hti]
theorem g_getR0 {g : GE} {d : Nat} {Y : GM} {pc : Nat} {ls : List (Nat × Value)} {st : List Value} {w : GW} {Q : Option Value → GW → Prop} {idx a : Nat} (ci k cc : Nat) {fin : Bool} (hd : decode Y.2.1 pc = .ok (.getfield idx, 3)) (hf : gfl Y.1.cls idx ci k fin) (hti : gTI ci k = false) (hcc : 64 * ci + k = cc) (ha : gOb g w a ci) (kk : gF g d Y (pc + 3) ls (va_rf (gR w cc a) :: st) w Q) : gF g d Y pc ls (.ref a :: st) w Q := by
  subst hcc
  refine kk.pure fun r w' h => ?_
  intro p e R s m args below meth c n0 u0 H locs lsA C h1 h2 h3 h4 h5 h6 h7
  obtain ⟨hx, hb, hml, hown, hts, hlk, hrt, hnm, hK, hZ, hAO, hdf, hdl⟩ := id C
  obtain ⟨hB, hN, hKa⟩ := ha
  have hat := h5.2.2.1 a hB hN
  obtain ⟨qc, hq, hkN, hlink, hfin, hcl⟩ := hf
  obtain ⟨z1, z2, z3, z4, z5⟩ := g_cl hq
  obtain ⟨cell, q1, q2, q3, q4⟩ := hat.obj hKa z5
  obtain ⟨hSl, hfc, kC, hkC, hkind⟩ := hK.1 ci _ hq
  obtain ⟨cf, kf, fi, f, hi, hsl⟩ := hSl k hkN
  refine W.getf hx hb hown (hts _ hlink) hi (u_facts hfc hkC (u_lays hts z2 hkN) hi).1 q1 (by rw [q3]; exact fun h => by cases h) (v := va_rf (gR w (64 * ci + k) a)) ?_ rfl rfl hd (h p e R s m args below meth c n0 u0 H locs lsA C h1 h2 h3 h4 h5 h6 h7)
  rw [hsl, q4 k (by rw [← z1]; exact hkN), gV_R hti]
theorem g_getR {g : GE} {d : Nat} {Y : GM} {pc : Nat} {ls : List (Nat × Value)} {st : List Value} {w : GW} {Q : Option Value → GW → Prop} {idx a q : Nat} (ci k cc : Nat) {fin : Bool} (hd : decode Y.2.1 pc = .ok (.getfield idx, 3)) (hf : gfl Y.1.cls idx ci k fin) (hti : gTI ci k = false) (hcc : 64 * ci + k = cc) (ha : gOb g w a ci) (hv : gR w cc a = some q) (kk : gF g d Y (pc + 3) ls (.ref q :: st) w Q) : gF g d Y pc ls (.ref a :: st) w Q := g_getR0 ci k cc hd hf hti hcc ha (by rw [hv]; exact kk)
theorem g_getN {g : GE} {d : Nat} {Y : GM} {pc : Nat} {ls : List (Nat × Value)} {st : List Value} {w : GW} {Q : Option Value → GW → Prop} {idx a : Nat} (ci k cc : Nat) {fin : Bool} (hd : decode Y.2.1 pc = .ok (.getfield idx, 3)) (hf : gfl Y.1.cls idx ci k fin) (hti : gTI ci k = false) (hcc : 64 * ci + k = cc) (ha : gOb g w a ci) (hv : gR w cc a = none) (kk : gF g d Y (pc + 3) ls (.null :: st) w Q) : gF g d Y pc ls (.ref a :: st) w Q := g_getR0 ci k cc hd hf hti hcc ha (by rw [hv]; exact kk)
theorem gV_setI_o {w : GW} {c a x : Nat} {v : Int32} (h : x ≠ a) (ci k : Nat) : gV (setI w c a v) ci x k = gV w ci x k := by
  simp only [gV, gI_setI, gR_setI, up2, h, and_false, if_false]
theorem gV_setR_o {w : GW} {c a x : Nat} {v : Option Nat} (h : x ≠ a) (ci k : Nat) : gV (setR w c a v) ci x k = gV w ci x k := by
  simp only [gV, gI_setR, gR_setR, up2, h, and_false, if_false]
theorem gV_setI {w : GW} {ci a k : Nat} {v : Int32} (ht : gTI ci k = true) (j : Nat) : updV (gV w ci a) k (.int v) j = gV (setI w (64 * ci + k) a v) ci a j := by
  by_cases e : j = k
  · subst e
    simp [updV, gV, ht, gI_setI, up2]
  · have e2 : ¬ (64 * ci + j = 64 * ci + k) := by omega
    simp only [updV, gV, gI_setI, gR_setI, up2, if_neg e, e2, false_and, if_false]
theorem gV_setR {w : GW} {ci a k : Nat} {v : Option Nat} (ht : gTI ci k = false) (j : Nat) : updV (gV w ci a) k (va_rf v) j = gV (setR w (64 * ci + k) a v) ci a j := by
  by_cases e : j = k
  · subst e
    simp [updV, gV, ht, gR_setR, up2]
  · have e2 : ¬ (64 * ci + j = 64 * ci + k) := by omega
    simp only [updV, gV, gI_setR, gR_setR, up2, if_neg e, e2, false_and, if_false]
theorem gTI_ty {ci k : Nat} (h : gTI ci k = true) : gTy ci k = .int := by
  unfold gTI at h
  split at h
  · assumption
  · cases h
theorem gF.pure2 {g : GE} {d : Nat} {Y : GM} {pc pc1 : Nat} {ls ls1 : List (Nat × Value)} {st st1 : List Value} {w w1 : GW} {Q : Option Value → GW → Prop} (k : gF g d Y pc1 ls1 st1 w1 Q) (hn : gN w1 = gN w) (hu : gU w1 = gU w) (h : ∀ r w', gG g d Y pc1 ls1 st1 w1 r w' → gG g d Y pc ls st w r w') : gF g d Y pc ls st w Q := k.step (Nat.le_of_eq hn.symm) (Nat.le_of_eq hu.symm) (fun r w' _ _ h4 => h r w' h4)
theorem g_putI {g : GE} {d : Nat} {Y : GM} {pc : Nat} {ls : List (Nat × Value)} {st : List Value} {w : GW} {Q : Option Value → GW → Prop} {idx a : Nat} {x : Int32} (ci k cc : Nat) (hd : decode Y.2.1 pc = .ok (.putfield idx, 3)) (hf : gfl Y.1.cls idx ci k false) (hti : gTI ci k = true) (hcc : 64 * ci + k = cc) (ha : gOb g w a ci) (kk : gF g d Y (pc + 3) ls st (setI w cc a x) Q) : gF g d Y pc ls (.int x :: .ref a :: st) w Q := by
  subst hcc
  refine kk.pure2 rfl rfl fun r w' h => ?_
  intro p e R s m args below meth c n0 u0 H locs lsA C h1 h2 h3 h4 h5 h6 h7
  obtain ⟨hx, hb, hml, hown, hts, hlk, hrt, hnm, hK, hZ, hAO, hdf, hdl⟩ := id C
  obtain ⟨hB, hN, hKa⟩ := ha
  have hat := h5.2.2.1 a hB hN
  obtain ⟨qc, hq, hkN, hlink, hfin, hcl⟩ := hf
  obtain ⟨z1, z2, z3, z4, z5⟩ := g_cl hq
  obtain ⟨cell, q1, q2, q3, q4⟩ := hat.obj hKa z5
  obtain ⟨hSl, hfc, kC, hkC, hkind⟩ := hK.1 ci _ hq
  obtain ⟨cf, kf, fi, f, hi, hsl⟩ := hSl k hkN
  have hnar : narrow (gTy ci k) (Value.int x) = .int x := by rw [gTI_ty hti]; rfl
  have hfit : fits (gTy ci k) (Value.int x) = true := by rw [gTI_ty hti]; rfl
  have hlay := hts _ (z2 _ (u_in_lay hkN))
  unfold u_lay at hlay
  rw [if_neg (by rw [hfin]; decide)] at hlay
  have hst := (u_facts hfc hkC (u_lays hts z2 hkN) hi).1
  have h8 := u_store hfc hkC hkind hlay hi (z3 k hkN) hnar hfit
  have hap := va_apart (own := Y.1.cls) hts z2 (gTy ci) z3 z4 hK hq
  refine W.putK hx hb (f := f) ⟨hown, hts _ hlink, ⟨_, _, _, hi⟩, hst⟩ (by rw [q2]; exact h8) q1 q3 (by rw [hsl]; exact k2_hasslot (q4 k (by rw [← z1]; exact hkN))) rfl rfl hd fun H1 e1 e2 e3 => ?_
  rw [hsl] at e1 ⊢
  refine h p e R s m args below meth c n0 u0 H1 _ lsA C h1 h2 h3 h4 ?_ (gS.put h6 hB e2 e3) h7
  refine h5.put hB e2 e3 rfl (fun y hy hat => hat.same rfl rfl (gV_setI_o hy) (fun _ _ => rfl)) ?_
  refine Or.inl ⟨by show gK w a < 10; omega, ?_⟩
  show t_OB a ((eG g).1 (gK w a)) (gNF (gK w a)) ((eG g).2 (gK w a)) H1 (gV (setI w (64 * ci + k) a x) (gK w a) a)
  rw [hKa]
  exact t_OB.to (V := updV (gV w ci a) k (Value.int x)) ⟨_, e1, q2, q3, fun j hj => t_set (fun j hj => q4 j (by rw [← z1]; exact hj)) hap hkN _ j (by rw [z1]; exact hj)⟩ (fun j _ => gV_setI hti j)
theorem g_putR {g : GE} {d : Nat} {Y : GM} {pc : Nat} {ls : List (Nat × Value)} {st : List Value} {w : GW} {Q : Option Value → GW → Prop} {idx a : Nat} {x : Nat} (ci k cc : Nat) (hd : decode Y.2.1 pc = .ok (.putfield idx, 3)) (hf : gfl Y.1.cls idx ci k false) (hti : gTI ci k = false) (hnar : narrow (gTy ci k) (.ref x) = .ref x) (hfit : fits (gTy ci k) (.ref x) = true) (hcc : 64 * ci + k = cc) (ha : gOb g w a ci) (kk : gF g d Y (pc + 3) ls st (setR w cc a (some x)) Q) : gF g d Y pc ls (.ref x :: .ref a :: st) w Q := by
  subst hcc
  refine kk.pure2 rfl rfl fun r w' h => ?_
  intro p e R s m args below meth c n0 u0 H locs lsA C h1 h2 h3 h4 h5 h6 h7
  obtain ⟨hx, hb, hml, hown, hts, hlk, hrt, hnm, hK, hZ, hAO, hdf, hdl⟩ := id C
  obtain ⟨hB, hN, hKa⟩ := ha
  have hat := h5.2.2.1 a hB hN
  obtain ⟨qc, hq, hkN, hlink, hfin, hcl⟩ := hf
  obtain ⟨z1, z2, z3, z4, z5⟩ := g_cl hq
  obtain ⟨cell, q1, q2, q3, q4⟩ := hat.obj hKa z5
  obtain ⟨hSl, hfc, kC, hkC, hkind⟩ := hK.1 ci _ hq
  obtain ⟨cf, kf, fi, f, hi, hsl⟩ := hSl k hkN
  
  
  have hlay := hts _ (z2 _ (u_in_lay hkN))
  unfold u_lay at hlay
  rw [if_neg (by rw [hfin]; decide)] at hlay
  have hst := (u_facts hfc hkC (u_lays hts z2 hkN) hi).1
  have h8 := u_store hfc hkC hkind hlay hi (z3 k hkN) hnar hfit
  have hap := va_apart (own := Y.1.cls) hts z2 (gTy ci) z3 z4 hK hq
  refine W.putK hx hb (f := f) ⟨hown, hts _ hlink, ⟨_, _, _, hi⟩, hst⟩ (by rw [q2]; exact h8) q1 q3 (by rw [hsl]; exact k2_hasslot (q4 k (by rw [← z1]; exact hkN))) rfl rfl hd fun H1 e1 e2 e3 => ?_
  rw [hsl] at e1 ⊢
  refine h p e R s m args below meth c n0 u0 H1 _ lsA C h1 h2 h3 h4 ?_ (gS.put h6 hB e2 e3) h7
  refine h5.put hB e2 e3 rfl (fun y hy hat => hat.same rfl rfl (gV_setR_o hy) (fun _ _ => rfl)) ?_
  refine Or.inl ⟨by show gK w a < 10; omega, ?_⟩
  show t_OB a ((eG g).1 (gK w a)) (gNF (gK w a)) ((eG g).2 (gK w a)) H1 (gV (setR w (64 * ci + k) a (some x)) (gK w a) a)
  rw [hKa]
  exact t_OB.to (V := updV (gV w ci a) k (va_rf (some x))) ⟨_, e1, q2, q3, fun j hj => t_set (fun j hj => q4 j (by rw [← z1]; exact hj)) hap hkN _ j (by rw [z1]; exact hj)⟩ (fun j _ => gV_setR hti j)
theorem g_putN {g : GE} {d : Nat} {Y : GM} {pc : Nat} {ls : List (Nat × Value)} {st : List Value} {w : GW} {Q : Option Value → GW → Prop} {idx a : Nat} (ci k cc : Nat) (hd : decode Y.2.1 pc = .ok (.putfield idx, 3)) (hf : gfl Y.1.cls idx ci k false) (hti : gTI ci k = false) (hnar : narrow (gTy ci k) .null = .null) (hfit : fits (gTy ci k) .null = true) (hcc : 64 * ci + k = cc) (ha : gOb g w a ci) (kk : gF g d Y (pc + 3) ls st (setR w cc a none) Q) : gF g d Y pc ls (.null :: .ref a :: st) w Q := by
  subst hcc
  refine kk.pure2 rfl rfl fun r w' h => ?_
  intro p e R s m args below meth c n0 u0 H locs lsA C h1 h2 h3 h4 h5 h6 h7
  obtain ⟨hx, hb, hml, hown, hts, hlk, hrt, hnm, hK, hZ, hAO, hdf, hdl⟩ := id C
  obtain ⟨hB, hN, hKa⟩ := ha
  have hat := h5.2.2.1 a hB hN
  obtain ⟨qc, hq, hkN, hlink, hfin, hcl⟩ := hf
  obtain ⟨z1, z2, z3, z4, z5⟩ := g_cl hq
  obtain ⟨cell, q1, q2, q3, q4⟩ := hat.obj hKa z5
  obtain ⟨hSl, hfc, kC, hkC, hkind⟩ := hK.1 ci _ hq
  obtain ⟨cf, kf, fi, f, hi, hsl⟩ := hSl k hkN
  
  
  have hlay := hts _ (z2 _ (u_in_lay hkN))
  unfold u_lay at hlay
  rw [if_neg (by rw [hfin]; decide)] at hlay
  have hst := (u_facts hfc hkC (u_lays hts z2 hkN) hi).1
  have h8 := u_store hfc hkC hkind hlay hi (z3 k hkN) hnar hfit
  have hap := va_apart (own := Y.1.cls) hts z2 (gTy ci) z3 z4 hK hq
  refine W.putK hx hb (f := f) ⟨hown, hts _ hlink, ⟨_, _, _, hi⟩, hst⟩ (by rw [q2]; exact h8) q1 q3 (by rw [hsl]; exact k2_hasslot (q4 k (by rw [← z1]; exact hkN))) rfl rfl hd fun H1 e1 e2 e3 => ?_
  rw [hsl] at e1 ⊢
  refine h p e R s m args below meth c n0 u0 H1 _ lsA C h1 h2 h3 h4 ?_ (gS.put h6 hB e2 e3) h7
  refine h5.put hB e2 e3 rfl (fun y hy hat => hat.same rfl rfl (gV_setR_o hy) (fun _ _ => rfl)) ?_
  refine Or.inl ⟨by show gK w a < 10; omega, ?_⟩
  show t_OB a ((eG g).1 (gK w a)) (gNF (gK w a)) ((eG g).2 (gK w a)) H1 (gV (setR w (64 * ci + k) a none) (gK w a) a)
  rw [hKa]
  exact t_OB.to (V := updV (gV w ci a) k (va_rf none)) ⟨_, e1, q2, q3, fun j hj => t_set (fun j hj => q4 j (by rw [← z1]; exact hj)) hap hkN _ j (by rw [z1]; exact hj)⟩ (fun j _ => gV_setR hti j)
theorem g_putFI {g : GE} {d : Nat} {Y : GM} {pc : Nat} {ls : List (Nat × Value)} {st : List Value} {w : GW} {Q : Option Value → GW → Prop} {idx a : Nat} {x : Int32} (ci k cc : Nat) (hd : decode Y.2.1 pc = .ok (.putfield idx, 3)) (hf : gfl Y.1.cls idx ci k true) (hin : Y.1.name = "<init>") (hdecl : Y.1.cls = (vwCl.getD ci ("", TX0, 0)).1) (hti : gTI ci k = true) (hcc : 64 * ci + k = cc) (ha : gOb g w a ci) (kk : gF g d Y (pc + 3) ls st (setI w cc a x) Q) : gF g d Y pc ls (.int x :: .ref a :: st) w Q := by
  subst hcc
  refine kk.pure2 rfl rfl fun r w' h => ?_
  intro p e R s m args below meth c n0 u0 H locs lsA C h1 h2 h3 h4 h5 h6 h7
  obtain ⟨hx, hb, hml, hown, hts, hlk, hrt, hnm, hK, hZ, hAO, hdf, hdl⟩ := id C
  obtain ⟨hB, hN, hKa⟩ := ha
  have hat := h5.2.2.1 a hB hN
  obtain ⟨qc, hq, hkN, hlink, hfin, hcl⟩ := hf
  obtain ⟨z1, z2, z3, z4, z5⟩ := g_cl hq
  obtain ⟨cell, q1, q2, q3, q4⟩ := hat.obj hKa z5
  obtain ⟨hSl, hfc, kC, hkC, hkind⟩ := hK.1 ci _ hq
  obtain ⟨cf, kf, fi, f, hi, hsl⟩ := hSl k hkN
  have hnar : narrow (gTy ci k) (Value.int x) = .int x := by rw [gTI_ty hti]; rfl
  have hfit : fits (gTy ci k) (Value.int x) = true := by rw [gTI_ty hti]; rfl
  have hlay := hts _ (z2 _ (u_in_lay hkN))
  unfold u_lay at hlay
  rw [if_pos hfin] at hlay
  have hst := (u_facts hfc hkC (u_lays hts z2 hkN) hi).1
  have hcf : m.cls = cf := by
    obtain ⟨_, _, c', _, _, _, -, -, hf', -, -, -, hown2, -⟩ := Cond.laysFinal_spec hlay
    have e1 : c' = cf := by have := hi.symm.trans hf'; simp at this; exact this.1.symm
    rw [hcl] at hown2
    have hq2 : (vwCl.getD ci ("", TX0, 0)).1 = qc.1 := by rw [List.getD_eq_getElem?_getD, hq]; rfl
    rw [hdecl, hq2] at hown
    rw [← e1]; exact Option.some.inj (hown.symm.trans hown2)
  have h8 := u_fits hfc hkC hkind (Or.inr hlay) hi (z3 k hkN) hnar hfit
  have hap := va_apart (own := Y.1.cls) hts z2 (gTy ci) z3 z4 hK hq
  refine W.putFinK hx hb hown (hts _ hlink) hi hst hcf (hnm.trans hin) (by rw [q2]; exact h8) q1 q3 (by rw [hsl]; exact k2_hasslot (q4 k (by rw [← z1]; exact hkN))) rfl rfl hd fun H1 e1 e2 e3 => ?_
  rw [hsl] at e1 ⊢
  refine h p e R s m args below meth c n0 u0 H1 _ lsA C h1 h2 h3 h4 ?_ (gS.put h6 hB e2 e3) h7
  refine h5.put hB e2 e3 rfl (fun y hy hat => hat.same rfl rfl (gV_setI_o hy) (fun _ _ => rfl)) ?_
  refine Or.inl ⟨by show gK w a < 10; omega, ?_⟩
  show t_OB a ((eG g).1 (gK w a)) (gNF (gK w a)) ((eG g).2 (gK w a)) H1 (gV (setI w (64 * ci + k) a x) (gK w a) a)
  rw [hKa]
  exact t_OB.to (V := updV (gV w ci a) k (Value.int x)) ⟨_, e1, q2, q3, fun j hj => t_set (fun j hj => q4 j (by rw [← z1]; exact hj)) hap hkN _ j (by rw [z1]; exact hj)⟩ (fun j _ => gV_setI hti j)
theorem g_putFR {g : GE} {d : Nat} {Y : GM} {pc : Nat} {ls : List (Nat × Value)} {st : List Value} {w : GW} {Q : Option Value → GW → Prop} {idx a : Nat} {x : Nat} (ci k cc : Nat) (hd : decode Y.2.1 pc = .ok (.putfield idx, 3)) (hf : gfl Y.1.cls idx ci k true) (hin : Y.1.name = "<init>") (hdecl : Y.1.cls = (vwCl.getD ci ("", TX0, 0)).1) (hti : gTI ci k = false) (hnar : narrow (gTy ci k) (.ref x) = .ref x) (hfit : fits (gTy ci k) (.ref x) = true) (hcc : 64 * ci + k = cc) (ha : gOb g w a ci) (kk : gF g d Y (pc + 3) ls st (setR w cc a (some x)) Q) : gF g d Y pc ls (.ref x :: .ref a :: st) w Q := by
  subst hcc
  refine kk.pure2 rfl rfl fun r w' h => ?_
  intro p e R s m args below meth c n0 u0 H locs lsA C h1 h2 h3 h4 h5 h6 h7
  obtain ⟨hx, hb, hml, hown, hts, hlk, hrt, hnm, hK, hZ, hAO, hdf, hdl⟩ := id C
  obtain ⟨hB, hN, hKa⟩ := ha
  have hat := h5.2.2.1 a hB hN
  obtain ⟨qc, hq, hkN, hlink, hfin, hcl⟩ := hf
  obtain ⟨z1, z2, z3, z4, z5⟩ := g_cl hq
  obtain ⟨cell, q1, q2, q3, q4⟩ := hat.obj hKa z5
  obtain ⟨hSl, hfc, kC, hkC, hkind⟩ := hK.1 ci _ hq
  obtain ⟨cf, kf, fi, f, hi, hsl⟩ := hSl k hkN
  
  
  have hlay := hts _ (z2 _ (u_in_lay hkN))
  unfold u_lay at hlay
  rw [if_pos hfin] at hlay
  have hst := (u_facts hfc hkC (u_lays hts z2 hkN) hi).1
  have hcf : m.cls = cf := by
    obtain ⟨_, _, c', _, _, _, -, -, hf', -, -, -, hown2, -⟩ := Cond.laysFinal_spec hlay
    have e1 : c' = cf := by have := hi.symm.trans hf'; simp at this; exact this.1.symm
    rw [hcl] at hown2
    have hq2 : (vwCl.getD ci ("", TX0, 0)).1 = qc.1 := by rw [List.getD_eq_getElem?_getD, hq]; rfl
    rw [hdecl, hq2] at hown
    rw [← e1]; exact Option.some.inj (hown.symm.trans hown2)
  have h8 := u_fits hfc hkC hkind (Or.inr hlay) hi (z3 k hkN) hnar hfit
  have hap := va_apart (own := Y.1.cls) hts z2 (gTy ci) z3 z4 hK hq
  refine W.putFinK hx hb hown (hts _ hlink) hi hst hcf (hnm.trans hin) (by rw [q2]; exact h8) q1 q3 (by rw [hsl]; exact k2_hasslot (q4 k (by rw [← z1]; exact hkN))) rfl rfl hd fun H1 e1 e2 e3 => ?_
  rw [hsl] at e1 ⊢
  refine h p e R s m args below meth c n0 u0 H1 _ lsA C h1 h2 h3 h4 ?_ (gS.put h6 hB e2 e3) h7
  refine h5.put hB e2 e3 rfl (fun y hy hat => hat.same rfl rfl (gV_setR_o hy) (fun _ _ => rfl)) ?_
  refine Or.inl ⟨by show gK w a < 10; omega, ?_⟩
  show t_OB a ((eG g).1 (gK w a)) (gNF (gK w a)) ((eG g).2 (gK w a)) H1 (gV (setR w (64 * ci + k) a (some x)) (gK w a) a)
  rw [hKa]
  exact t_OB.to (V := updV (gV w ci a) k (va_rf (some x))) ⟨_, e1, q2, q3, fun j hj => t_set (fun j hj => q4 j (by rw [← z1]; exact hj)) hap hkN _ j (by rw [z1]; exact hj)⟩ (fun j _ => gV_setR hti j)
