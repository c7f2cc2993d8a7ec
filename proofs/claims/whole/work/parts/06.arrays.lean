theorem gE_setA_o {w : GW} {c a x : Nat} {v : Int32} (h : x ≠ c) (kd j : Nat) : gE (setA w c a v) kd x j = gE w kd x j := by
  simp only [gE, gA_setA, gD_setA, gP_setA, up2, h, false_and, if_false]
theorem gE_setD_o {w : GW} {c a x : Nat} {v : UInt64} (h : x ≠ c) (kd j : Nat) : gE (setD w c a v) kd x j = gE w kd x j := by
  simp only [gE, gA_setD, gD_setD, gP_setD, up2, h, false_and, if_false]
theorem gE_setP_o {w : GW} {c a x : Nat} {v : Option Nat} (h : x ≠ c) (kd j : Nat) : gE (setP w c a v) kd x j = gE w kd x j := by
  simp only [gE, gA_setP, gD_setP, gP_setP, up2, h, false_and, if_false]
theorem gE_A {w : GW} {kd a : Nat} (h : kd = 11 ∨ kd = 12) (j : Nat) : gE w kd a j = .int (gA w a j) := by
  have h0 : ¬ kd = 10 := by omega
  simp only [gE, if_neg h0, if_pos h]
theorem gE_D {w : GW} {a : Nat} (j : Nat) : gE w 10 a j = .double (gD w a j) := rfl
theorem gE_P {w : GW} {kd a : Nat} (h : 13 ≤ kd) (j : Nat) : gE w kd a j = va_rf (gP w a j) := by
  have h0 : ¬ kd = 10 := by omega
  have h1 : ¬ (kd = 11 ∨ kd = 12) := by omega
  simp only [gE, if_neg h0, if_neg h1]
theorem gE_setA {w : GW} {kd a j : Nat} {v : Int32} (h : kd = 11 ∨ kd = 12) : updV (gE w kd a) j (.int v) = gE (setA w a j v) kd a := by
  funext q
  by_cases e : q = j
  · subst e; simp [updV, gE_A h, gA_setA, up2]
  · simp [updV, gE_A h, gA_setA, up2, e]
theorem gE_setD {w : GW} {a j : Nat} {v : UInt64} : updV (gE w 10 a) j (.double v) = gE (setD w a j v) 10 a := by
  funext q
  by_cases e : q = j
  · subst e; simp [updV, gE_D, gD_setD, up2]
  · simp [updV, gE_D, gD_setD, up2, e]
theorem gE_setP {w : GW} {kd a j : Nat} {v : Option Nat} (h : 13 ≤ kd) : updV (gE w kd a) j (va_rf v) = gE (setP w a j v) kd a := by
  funext q
  by_cases e : q = j
  · subst e; simp [updV, gE_P h, gP_setP, up2]
  · simp [updV, gE_P h, gP_setP, up2, e]
theorem g_iald {g : GE} {d : Nat} {Y : GM} {pc : Nat} {ls : List (Nat × Value)} {st : List Value} {w : GW} {Q : Option Value → GW → Prop} {a j : Nat} {i : Int32} (hd : decode Y.2.1 pc = .ok (.iaload, 1)) (ha : gOb g w a 11) (hi : i = nI j) (hj : j < gL w a) (kk : gF g d Y (pc + 1) ls (.int (gA w a j) :: st) w Q) : gF g d Y pc ls (.int i :: .ref a :: st) w Q := by
  subst hi
  refine kk.pure fun r w' h => ?_
  intro p e R s m args below meth c n0 u0 H locs lsA C h1 h2 h3 h4 h5 h6 h7
  obtain ⟨hx, hb, hml, hown, hts, hlk, hrt, hnm, hK, hZ, hAO, hdf, hdl⟩ := id C
  obtain ⟨hB, hN, hKa⟩ := ha
  obtain ⟨hL, hcell⟩ := (h5.2.2.1 a hB hN).arr hKa (by decide)
  have hin : ¬ (nI j < 0 ∨ gL w a ≤ (nI j).toNatClampNeg) := nI_in hj hL
  have hcl : (nI j).toNatClampNeg = j := nI_clamp (Nat.lt_trans hj hL)
  exact W.iald (v := .int (gA w a j)) hx hb hcell ((hK.2 1 _ rfl).1 _ _) (fun q => by cases q) (by show ¬ (nI j < 0 ∨ (arrV _ _ _).slots.size ≤ _); rw [arrV_size]; exact hin) (by show (arrV _ _ _).slots[_]? = _; rw [hcl, arrV_read _ _ hj]; rfl) rfl rfl hd (h p e R s m args below meth c n0 u0 H locs lsA C h1 h2 h3 h4 h5 h6 h7)
theorem g_zald {g : GE} {d : Nat} {Y : GM} {pc : Nat} {ls : List (Nat × Value)} {st : List Value} {w : GW} {Q : Option Value → GW → Prop} {a j : Nat} {i : Int32} (hd : decode Y.2.1 pc = .ok (.baload, 1)) (ha : gOb g w a 12) (hi : i = nI j) (hj : j < gL w a) (kk : gF g d Y (pc + 1) ls (.int (gA w a j) :: st) w Q) : gF g d Y pc ls (.int i :: .ref a :: st) w Q := by
  subst hi
  refine kk.pure fun r w' h => ?_
  intro p e R s m args below meth c n0 u0 H locs lsA C h1 h2 h3 h4 h5 h6 h7
  obtain ⟨hx, hb, hml, hown, hts, hlk, hrt, hnm, hK, hZ, hAO, hdf, hdl⟩ := id C
  obtain ⟨hB, hN, hKa⟩ := ha
  obtain ⟨hL, hcell⟩ := (h5.2.2.1 a hB hN).arr hKa (by decide)
  have hin : ¬ (nI j < 0 ∨ gL w a ≤ (nI j).toNatClampNeg) := nI_in hj hL
  have hcl : (nI j).toNatClampNeg = j := nI_clamp (Nat.lt_trans hj hL)
  exact W.zald (v := .int (gA w a j)) hx hb hcell ((hK.2 2 _ rfl).1 _ _) (fun q => by cases q) (by show ¬ (nI j < 0 ∨ (arrV _ _ _).slots.size ≤ _); rw [arrV_size]; exact hin) (by show (arrV _ _ _).slots[_]? = _; rw [hcl, arrV_read _ _ hj]; rfl) rfl rfl hd (h p e R s m args below meth c n0 u0 H locs lsA C h1 h2 h3 h4 h5 h6 h7)
theorem g_dald {g : GE} {d : Nat} {Y : GM} {pc : Nat} {ls : List (Nat × Value)} {st : List Value} {w : GW} {Q : Option Value → GW → Prop} {a j : Nat} {i : Int32} (hd : decode Y.2.1 pc = .ok (.daload, 1)) (ha : gOb g w a 10) (hi : i = nI j) (hj : j < gL w a) (kk : gF g d Y (pc + 1) ls (.double (gD w a j) :: st) w Q) : gF g d Y pc ls (.int i :: .ref a :: st) w Q := by
  subst hi
  refine kk.pure fun r w' h => ?_
  intro p e R s m args below meth c n0 u0 H locs lsA C h1 h2 h3 h4 h5 h6 h7
  obtain ⟨hx, hb, hml, hown, hts, hlk, hrt, hnm, hK, hZ, hAO, hdf, hdl⟩ := id C
  obtain ⟨hB, hN, hKa⟩ := ha
  obtain ⟨hL, hcell⟩ := (h5.2.2.1 a hB hN).arr hKa (by decide)
  have hin : ¬ (nI j < 0 ∨ gL w a ≤ (nI j).toNatClampNeg) := nI_in hj hL
  have hcl : (nI j).toNatClampNeg = j := nI_clamp (Nat.lt_trans hj hL)
  exact W.dald (v := .double (gD w a j)) hx hb hcell ((hK.2 0 _ rfl).1 _ _) (fun q => by cases q) (by show ¬ (nI j < 0 ∨ (arrV _ _ _).slots.size ≤ _); rw [arrV_size]; exact hin) (by show (arrV _ _ _).slots[_]? = _; rw [hcl, arrV_read _ _ hj]; rfl) rfl rfl hd (h p e R s m args below meth c n0 u0 H locs lsA C h1 h2 h3 h4 h5 h6 h7)
theorem g_aald13 {g : GE} {d : Nat} {Y : GM} {pc : Nat} {ls : List (Nat × Value)} {st : List Value} {w : GW} {Q : Option Value → GW → Prop} {a j q : Nat} {i : Int32} (hd : decode Y.2.1 pc = .ok (.aaload, 1)) (ha : gOb g w a 13) (hi : i = nI j) (hj : j < gL w a) (hv : gP w a j = some q) (kk : gF g d Y (pc + 1) ls (.ref q :: st) w Q) : gF g d Y pc ls (.int i :: .ref a :: st) w Q := by
  subst hi
  refine kk.pure fun r w' h => ?_
  intro p e R s m args below meth c n0 u0 H locs lsA C h1 h2 h3 h4 h5 h6 h7
  obtain ⟨hx, hb, hml, hown, hts, hlk, hrt, hnm, hK, hZ, hAO, hdf, hdl⟩ := id C
  obtain ⟨hB, hN, hKa⟩ := ha
  obtain ⟨hL, hcell⟩ := (h5.2.2.1 a hB hN).arr hKa (by decide)
  have hin : ¬ (nI j < 0 ∨ gL w a ≤ (nI j).toNatClampNeg) := nI_in hj hL
  have hcl : (nI j).toNatClampNeg = j := nI_clamp (Nat.lt_trans hj hL)
  exact W.aald (v := .ref q) (ty := .object RX5) hx hb hcell ((hK.2 3 _ rfl).1 _ _) rfl (fun q => by cases q) (by show ¬ (nI j < 0 ∨ (arrV _ _ _).slots.size ≤ _); rw [arrV_size]; exact hin) (by show (arrV _ _ _).slots[_]? = _; rw [hcl, arrV_read _ _ hj, gE_P (by decide), hv]; rfl) rfl rfl hd (h p e R s m args below meth c n0 u0 H locs lsA C h1 h2 h3 h4 h5 h6 h7)
theorem g_aald14 {g : GE} {d : Nat} {Y : GM} {pc : Nat} {ls : List (Nat × Value)} {st : List Value} {w : GW} {Q : Option Value → GW → Prop} {a j q : Nat} {i : Int32} (hd : decode Y.2.1 pc = .ok (.aaload, 1)) (ha : gOb g w a 14) (hi : i = nI j) (hj : j < gL w a) (hv : gP w a j = some q) (kk : gF g d Y (pc + 1) ls (.ref q :: st) w Q) : gF g d Y pc ls (.int i :: .ref a :: st) w Q := by
  subst hi
  refine kk.pure fun r w' h => ?_
  intro p e R s m args below meth c n0 u0 H locs lsA C h1 h2 h3 h4 h5 h6 h7
  obtain ⟨hx, hb, hml, hown, hts, hlk, hrt, hnm, hK, hZ, hAO, hdf, hdl⟩ := id C
  obtain ⟨hB, hN, hKa⟩ := ha
  obtain ⟨hL, hcell⟩ := (h5.2.2.1 a hB hN).arr hKa (by decide)
  have hin : ¬ (nI j < 0 ∨ gL w a ≤ (nI j).toNatClampNeg) := nI_in hj hL
  have hcl : (nI j).toNatClampNeg = j := nI_clamp (Nat.lt_trans hj hL)
  exact W.aald (v := .ref q) (ty := .object RX6) hx hb hcell ((hK.2 4 _ rfl).1 _ _) rfl (fun q => by cases q) (by show ¬ (nI j < 0 ∨ (arrV _ _ _).slots.size ≤ _); rw [arrV_size]; exact hin) (by show (arrV _ _ _).slots[_]? = _; rw [hcl, arrV_read _ _ hj, gE_P (by decide), hv]; rfl) rfl rfl hd (h p e R s m args below meth c n0 u0 H locs lsA C h1 h2 h3 h4 h5 h6 h7)
theorem g_aald15 {g : GE} {d : Nat} {Y : GM} {pc : Nat} {ls : List (Nat × Value)} {st : List Value} {w : GW} {Q : Option Value → GW → Prop} {a j q : Nat} {i : Int32} (hd : decode Y.2.1 pc = .ok (.aaload, 1)) (ha : gOb g w a 15) (hi : i = nI j) (hj : j < gL w a) (hv : gP w a j = some q) (kk : gF g d Y (pc + 1) ls (.ref q :: st) w Q) : gF g d Y pc ls (.int i :: .ref a :: st) w Q := by
  subst hi
  refine kk.pure fun r w' h => ?_
  intro p e R s m args below meth c n0 u0 H locs lsA C h1 h2 h3 h4 h5 h6 h7
  obtain ⟨hx, hb, hml, hown, hts, hlk, hrt, hnm, hK, hZ, hAO, hdf, hdl⟩ := id C
  obtain ⟨hB, hN, hKa⟩ := ha
  obtain ⟨hL, hcell⟩ := (h5.2.2.1 a hB hN).arr hKa (by decide)
  have hin : ¬ (nI j < 0 ∨ gL w a ≤ (nI j).toNatClampNeg) := nI_in hj hL
  have hcl : (nI j).toNatClampNeg = j := nI_clamp (Nat.lt_trans hj hL)
  exact W.aald (v := .ref q) (ty := .object RX7) hx hb hcell ((hK.2 5 _ rfl).1 _ _) rfl (fun q => by cases q) (by show ¬ (nI j < 0 ∨ (arrV _ _ _).slots.size ≤ _); rw [arrV_size]; exact hin) (by show (arrV _ _ _).slots[_]? = _; rw [hcl, arrV_read _ _ hj, gE_P (by decide), hv]; rfl) rfl rfl hd (h p e R s m args below meth c n0 u0 H locs lsA C h1 h2 h3 h4 h5 h6 h7)
theorem g_iast {g : GE} {d : Nat} {Y : GM} {pc : Nat} {ls : List (Nat × Value)} {st : List Value} {w : GW} {Q : Option Value → GW → Prop} {a j : Nat} {i : Int32} {x : Int32} (hd : decode Y.2.1 pc = .ok (.iastore, 1)) (ha : gOb g w a 11) (hi : i = nI j) (hj : j < gL w a) (kk : gF g d Y (pc + 1) ls st (setA w a j x) Q) : gF g d Y pc ls (.int x :: .int i :: .ref a :: st) w Q := by
  subst hi
  refine kk.pure2 rfl rfl fun r w' h => ?_
  intro p e R s m args below meth c n0 u0 H locs lsA C h1 h2 h3 h4 h5 h6 h7
  obtain ⟨hx, hb, hml, hown, hts, hlk, hrt, hnm, hK, hZ, hAO, hdf, hdl⟩ := id C
  obtain ⟨hB, hN, hKa⟩ := ha
  obtain ⟨hL, hcell⟩ := (h5.2.2.1 a hB hN).arr hKa (by decide)
  have hin : ¬ (nI j < 0 ∨ gL w a ≤ (nI j).toNatClampNeg) := nI_in hj hL
  have hcl : (nI j).toNatClampNeg = j := nI_clamp (Nat.lt_trans hj hL)
  refine W.iast hx hb hcell ((hK.2 1 _ rfl).1 _ _) (fun q => by cases q) (by show ¬ (nI j < 0 ∨ (arrV _ _ _).slots.size ≤ _); rw [arrV_size]; exact hin) rfl rfl hd fun H1 e9 z oq => ?_
  refine h p e R s m args below meth c n0 u0 H1 _ lsA C h1 h2 h3 h4 ?_ (gS.put h6 hB z oq) h7
  refine h5.put hB z oq rfl (fun y hy hat => hat.same rfl rfl (fun _ _ => rfl) (gE_setA_o hy)) (Or.inr ⟨by show 10 ≤ gK w a; omega, by show gK w a < 16; omega, hL, ?_⟩)
  show H1[a]? = some (arrV (eC g (gK w a)) (gL w a) (gE (setA w a j x) (gK w a) a))
  rw [e9, arrV_store, hcl, hKa, gE_setA (by decide)]
theorem g_zast {g : GE} {d : Nat} {Y : GM} {pc : Nat} {ls : List (Nat × Value)} {st : List Value} {w : GW} {Q : Option Value → GW → Prop} {a j : Nat} {i : Int32} {x : Int32} (hd : decode Y.2.1 pc = .ok (.bastore, 1)) (ha : gOb g w a 12) (hi : i = nI j) (hj : j < gL w a) (hnb : narrow .boolean (.int x) = .int x) (kk : gF g d Y (pc + 1) ls st (setA w a j x) Q) : gF g d Y pc ls (.int x :: .int i :: .ref a :: st) w Q := by
  subst hi
  refine kk.pure2 rfl rfl fun r w' h => ?_
  intro p e R s m args below meth c n0 u0 H locs lsA C h1 h2 h3 h4 h5 h6 h7
  obtain ⟨hx, hb, hml, hown, hts, hlk, hrt, hnm, hK, hZ, hAO, hdf, hdl⟩ := id C
  obtain ⟨hB, hN, hKa⟩ := ha
  obtain ⟨hL, hcell⟩ := (h5.2.2.1 a hB hN).arr hKa (by decide)
  have hin : ¬ (nI j < 0 ∨ gL w a ≤ (nI j).toNatClampNeg) := nI_in hj hL
  have hcl : (nI j).toNatClampNeg = j := nI_clamp (Nat.lt_trans hj hL)
  refine W.zast hx hb hcell ((hK.2 2 _ rfl).1 _ _) (fun q => by cases q) (by show ¬ (nI j < 0 ∨ (arrV _ _ _).slots.size ≤ _); rw [arrV_size]; exact hin) rfl rfl hd fun H1 e9 z oq => ?_
  refine h p e R s m args below meth c n0 u0 H1 _ lsA C h1 h2 h3 h4 ?_ (gS.put h6 hB z oq) h7
  refine h5.put hB z oq rfl (fun y hy hat => hat.same rfl rfl (fun _ _ => rfl) (gE_setA_o hy)) (Or.inr ⟨by show 10 ≤ gK w a; omega, by show gK w a < 16; omega, hL, ?_⟩)
  show H1[a]? = some (arrV (eC g (gK w a)) (gL w a) (gE (setA w a j x) (gK w a) a))
  rw [e9, arrV_store, hcl, hnb, hKa, gE_setA (by decide)]
theorem g_dast {g : GE} {d : Nat} {Y : GM} {pc : Nat} {ls : List (Nat × Value)} {st : List Value} {w : GW} {Q : Option Value → GW → Prop} {a j : Nat} {i : Int32} {x : UInt64} (hd : decode Y.2.1 pc = .ok (.dastore, 1)) (ha : gOb g w a 10) (hi : i = nI j) (hj : j < gL w a) (kk : gF g d Y (pc + 1) ls st (setD w a j x) Q) : gF g d Y pc ls (.double x :: .int i :: .ref a :: st) w Q := by
  subst hi
  refine kk.pure2 rfl rfl fun r w' h => ?_
  intro p e R s m args below meth c n0 u0 H locs lsA C h1 h2 h3 h4 h5 h6 h7
  obtain ⟨hx, hb, hml, hown, hts, hlk, hrt, hnm, hK, hZ, hAO, hdf, hdl⟩ := id C
  obtain ⟨hB, hN, hKa⟩ := ha
  obtain ⟨hL, hcell⟩ := (h5.2.2.1 a hB hN).arr hKa (by decide)
  have hin : ¬ (nI j < 0 ∨ gL w a ≤ (nI j).toNatClampNeg) := nI_in hj hL
  have hcl : (nI j).toNatClampNeg = j := nI_clamp (Nat.lt_trans hj hL)
  refine W.dast hx hb hcell ((hK.2 0 _ rfl).1 _ _) (fun q => by cases q) (by show ¬ (nI j < 0 ∨ (arrV _ _ _).slots.size ≤ _); rw [arrV_size]; exact hin) rfl rfl hd fun H1 e9 z oq => ?_
  refine h p e R s m args below meth c n0 u0 H1 _ lsA C h1 h2 h3 h4 ?_ (gS.put h6 hB z oq) h7
  refine h5.put hB z oq rfl (fun y hy hat => hat.same rfl rfl (fun _ _ => rfl) (gE_setD_o hy)) (Or.inr ⟨by show 10 ≤ gK w a; omega, by show gK w a < 16; omega, hL, ?_⟩)
  show H1[a]? = some (arrV (eC g (gK w a)) (gL w a) (gE (setD w a j x) (gK w a) a))
  rw [e9, arrV_store, hcl, hKa, gE_setD]
theorem g_aast13 {g : GE} {d : Nat} {Y : GM} {pc : Nat} {ls : List (Nat × Value)} {st : List Value} {w : GW} {Q : Option Value → GW → Prop} {a j v : Nat} {i : Int32} (hd : decode Y.2.1 pc = .ok (.aastore, 1)) (ha : gOb g w a 13) (hi : i = nI j) (hj : j < gL w a) (hv : gOb g w v 5) (kk : gF g d Y (pc + 1) ls st (setP w a j (some v)) Q) : gF g d Y pc ls (.ref v :: .int i :: .ref a :: st) w Q := by
  subst hi
  refine kk.pure2 rfl rfl fun r w' h => ?_
  intro p e R s m args below meth c n0 u0 H locs lsA C h1 h2 h3 h4 h5 h6 h7
  obtain ⟨hx, hb, hml, hown, hts, hlk, hrt, hnm, hK, hZ, hAO, hdf, hdl⟩ := id C
  obtain ⟨hB, hN, hKa⟩ := ha
  obtain ⟨hL, hcell⟩ := (h5.2.2.1 a hB hN).arr hKa (by decide)
  have hin : ¬ (nI j < 0 ∨ gL w a ≤ (nI j).toNatClampNeg) := nI_in hj hL
  have hcl : (nI j).toNatClampNeg = j := nI_clamp (Nat.lt_trans hj hL)
  obtain ⟨cellV, y1, y2, y3, -⟩ := (h5.2.2.1 v hv.1 hv.2.1).obj hv.2.2 (by decide)
  have hcls := (hK.1 5 _ rfl).2
  obtain ⟨kA, comp, k1, k2, k3, -⟩ := (hK.2 3 _ rfl).2
  have hcomp : comp = (eG g).1 5 := Option.some.inj (k3.symm.trans hcls.1)
  subst hcomp
  obtain ⟨kC, hkC, -⟩ := hcls.2
  refine W.aast hx hb hcell (fun q h => by cases h) (fun h => by cases h) k1 k2 rfl hkC ⟨fun q => hin (Or.inl q), by show _ < (arrV _ _ _).slots.size; rw [arrV_size, hcl]; exact hj⟩ y1 (fun q h => by rw [y3] at h; cases h) (by rw [y2]; exact hkC) (by rw [y2]; exact va_assign hcls) rfl rfl hd fun H1 e9 z oq => ?_
  refine h p e R s m args below meth c n0 u0 H1 _ lsA C h1 h2 h3 h4 ?_ (gS.put h6 hB z oq) h7
  refine h5.put hB z oq rfl (fun y hy hat => hat.same rfl rfl (fun _ _ => rfl) (gE_setP_o hy)) (Or.inr ⟨by show 10 ≤ gK w a; omega, by show gK w a < 16; omega, hL, ?_⟩)
  show H1[a]? = some (arrV (eC g (gK w a)) (gL w a) (gE (setP w a j (some v)) (gK w a) a))
  rw [e9, arrV_store, hcl, hKa, ← gE_setP (by decide)]
  rfl
theorem g_aast14 {g : GE} {d : Nat} {Y : GM} {pc : Nat} {ls : List (Nat × Value)} {st : List Value} {w : GW} {Q : Option Value → GW → Prop} {a j v : Nat} {i : Int32} (hd : decode Y.2.1 pc = .ok (.aastore, 1)) (ha : gOb g w a 14) (hi : i = nI j) (hj : j < gL w a) (hv : gOb g w v 6) (kk : gF g d Y (pc + 1) ls st (setP w a j (some v)) Q) : gF g d Y pc ls (.ref v :: .int i :: .ref a :: st) w Q := by
  subst hi
  refine kk.pure2 rfl rfl fun r w' h => ?_
  intro p e R s m args below meth c n0 u0 H locs lsA C h1 h2 h3 h4 h5 h6 h7
  obtain ⟨hx, hb, hml, hown, hts, hlk, hrt, hnm, hK, hZ, hAO, hdf, hdl⟩ := id C
  obtain ⟨hB, hN, hKa⟩ := ha
  obtain ⟨hL, hcell⟩ := (h5.2.2.1 a hB hN).arr hKa (by decide)
  have hin : ¬ (nI j < 0 ∨ gL w a ≤ (nI j).toNatClampNeg) := nI_in hj hL
  have hcl : (nI j).toNatClampNeg = j := nI_clamp (Nat.lt_trans hj hL)
  obtain ⟨cellV, y1, y2, y3, -⟩ := (h5.2.2.1 v hv.1 hv.2.1).obj hv.2.2 (by decide)
  have hcls := (hK.1 6 _ rfl).2
  obtain ⟨kA, comp, k1, k2, k3, -⟩ := (hK.2 4 _ rfl).2
  have hcomp : comp = (eG g).1 6 := Option.some.inj (k3.symm.trans hcls.1)
  subst hcomp
  obtain ⟨kC, hkC, -⟩ := hcls.2
  refine W.aast hx hb hcell (fun q h => by cases h) (fun h => by cases h) k1 k2 rfl hkC ⟨fun q => hin (Or.inl q), by show _ < (arrV _ _ _).slots.size; rw [arrV_size, hcl]; exact hj⟩ y1 (fun q h => by rw [y3] at h; cases h) (by rw [y2]; exact hkC) (by rw [y2]; exact va_assign hcls) rfl rfl hd fun H1 e9 z oq => ?_
  refine h p e R s m args below meth c n0 u0 H1 _ lsA C h1 h2 h3 h4 ?_ (gS.put h6 hB z oq) h7
  refine h5.put hB z oq rfl (fun y hy hat => hat.same rfl rfl (fun _ _ => rfl) (gE_setP_o hy)) (Or.inr ⟨by show 10 ≤ gK w a; omega, by show gK w a < 16; omega, hL, ?_⟩)
  show H1[a]? = some (arrV (eC g (gK w a)) (gL w a) (gE (setP w a j (some v)) (gK w a) a))
  rw [e9, arrV_store, hcl, hKa, ← gE_setP (by decide)]
  rfl
theorem g_aast15 {g : GE} {d : Nat} {Y : GM} {pc : Nat} {ls : List (Nat × Value)} {st : List Value} {w : GW} {Q : Option Value → GW → Prop} {a j v : Nat} {i : Int32} (hd : decode Y.2.1 pc = .ok (.aastore, 1)) (ha : gOb g w a 15) (hi : i = nI j) (hj : j < gL w a) (hv : gOb g w v 7) (kk : gF g d Y (pc + 1) ls st (setP w a j (some v)) Q) : gF g d Y pc ls (.ref v :: .int i :: .ref a :: st) w Q := by
  subst hi
  refine kk.pure2 rfl rfl fun r w' h => ?_
  intro p e R s m args below meth c n0 u0 H locs lsA C h1 h2 h3 h4 h5 h6 h7
  obtain ⟨hx, hb, hml, hown, hts, hlk, hrt, hnm, hK, hZ, hAO, hdf, hdl⟩ := id C
  obtain ⟨hB, hN, hKa⟩ := ha
  obtain ⟨hL, hcell⟩ := (h5.2.2.1 a hB hN).arr hKa (by decide)
  have hin : ¬ (nI j < 0 ∨ gL w a ≤ (nI j).toNatClampNeg) := nI_in hj hL
  have hcl : (nI j).toNatClampNeg = j := nI_clamp (Nat.lt_trans hj hL)
  obtain ⟨cellV, y1, y2, y3, -⟩ := (h5.2.2.1 v hv.1 hv.2.1).obj hv.2.2 (by decide)
  have hcls := (hK.1 7 _ rfl).2
  obtain ⟨kA, comp, k1, k2, k3, -⟩ := (hK.2 5 _ rfl).2
  have hcomp : comp = (eG g).1 7 := Option.some.inj (k3.symm.trans hcls.1)
  subst hcomp
  obtain ⟨kC, hkC, -⟩ := hcls.2
  refine W.aast hx hb hcell (fun q h => by cases h) (fun h => by cases h) k1 k2 rfl hkC ⟨fun q => hin (Or.inl q), by show _ < (arrV _ _ _).slots.size; rw [arrV_size, hcl]; exact hj⟩ y1 (fun q h => by rw [y3] at h; cases h) (by rw [y2]; exact hkC) (by rw [y2]; exact va_assign hcls) rfl rfl hd fun H1 e9 z oq => ?_
  refine h p e R s m args below meth c n0 u0 H1 _ lsA C h1 h2 h3 h4 ?_ (gS.put h6 hB z oq) h7
  refine h5.put hB z oq rfl (fun y hy hat => hat.same rfl rfl (fun _ _ => rfl) (gE_setP_o hy)) (Or.inr ⟨by show 10 ≤ gK w a; omega, by show gK w a < 16; omega, hL, ?_⟩)
  show H1[a]? = some (arrV (eC g (gK w a)) (gL w a) (gE (setP w a j (some v)) (gK w a) a))
  rw [e9, arrV_store, hcl, hKa, ← gE_setP (by decide)]
  rfl
theorem g_alen {g : GE} {d : Nat} {Y : GM} {pc : Nat} {ls : List (Nat × Value)} {st : List Value} {w : GW} {Q : Option Value → GW → Prop} {a : Nat} (kd : Nat) (hd : decode Y.2.1 pc = .ok (.arraylength, 1)) (ha : gOb g w a kd) (hk : 10 ≤ kd) (hk2 : kd < 16) (kk : gF g d Y (pc + 1) ls (.int (nI (gL w a)) :: st) w Q) : gF g d Y pc ls (.ref a :: st) w Q := by
  refine kk.pure fun r w' h => ?_
  intro p e R s m args below meth c n0 u0 H locs lsA C h1 h2 h3 h4 h5 h6 h7
  obtain ⟨hx, hb, hml, hown, hts, hlk, hrt, hnm, hK, hZ, hAO, hdf, hdl⟩ := id C
  obtain ⟨hB, hN, hKa⟩ := ha
  obtain ⟨hL, hcell⟩ := (h5.2.2.1 a hB hN).arr hKa hk
  obtain ⟨ty, hty⟩ : ∃ ty : FieldType, (gTys g)[kd - 10]? = some (eC g kd, ty) := by
    rcases (show kd = 10 ∨ kd = 11 ∨ kd = 12 ∨ kd = 13 ∨ kd = 14 ∨ kd = 15 by omega) with rfl | rfl | rfl | rfl | rfl | rfl <;> exact ⟨_, rfl⟩
  exact W.alen hx hb hcell ((hK.2 _ _ hty).1 _ _) (by show (arrV _ _ _).slots.size.toInt32 = _; rw [arrV_size]; rfl) rfl rfl hd (h p e R s m args below meth c n0 u0 H locs lsA C h1 h2 h3 h4 h5 h6 h7)
theorem g_roald {g : GE} {d : Nat} {Y : GM} {pc : Nat} {ls : List (Nat × Value)} {st : List Value} {w : GW} {Q : Option Value → GW → Prop} {n j : Nat} {i : Int32} (hd : decode Y.2.1 pc = .ok (.iaload, 1)) (hn : n < 6) (hi : i = nI j) (hj : j < eOL g n) (kk : gF g d Y (pc + 1) ls (.int (eOF g n j) :: st) w Q) : gF g d Y pc ls (.int i :: .ref (eO g n) :: st) w Q := by
  subst hi
  refine kk.pure fun r w' h => ?_
  intro p e R s m args below meth c n0 u0 H locs lsA C h1 h2 h3 h4 h5 h6 h7
  obtain ⟨hx, hb, hml, hown, hts, hlk, hrt, hnm, hK, hZ, hAO, hdf, hdl⟩ := id C
  obtain ⟨hlt, cell, y1, y2, y3, y4, y5, y6⟩ := h5.2.2.2 n hn
  have hcl : (nI j).toNatClampNeg = j := nI_clamp (Nat.lt_trans hj y5)
  exact W.iald (v := .int (eOF g n j)) hx hb y1 y2 y3 (by rw [y4]; exact nI_in hj y5) (by rw [hcl]; exact y6 j hj) rfl rfl hd (h p e R s m args below meth c n0 u0 H locs lsA C h1 h2 h3 h4 h5 h6 h7)
theorem g_rolen {g : GE} {d : Nat} {Y : GM} {pc : Nat} {ls : List (Nat × Value)} {st : List Value} {w : GW} {Q : Option Value → GW → Prop} {n : Nat} (hd : decode Y.2.1 pc = .ok (.arraylength, 1)) (hn : n < 6) (kk : gF g d Y (pc + 1) ls (.int (nI (eOL g n)) :: st) w Q) : gF g d Y pc ls (.ref (eO g n) :: st) w Q := by
  refine kk.pure fun r w' h => ?_
  intro p e R s m args below meth c n0 u0 H locs lsA C h1 h2 h3 h4 h5 h6 h7
  obtain ⟨hx, hb, hml, hown, hts, hlk, hrt, hnm, hK, hZ, hAO, hdf, hdl⟩ := id C
  obtain ⟨hlt, cell, y1, y2, y3, y4, y5, y6⟩ := h5.2.2.2 n hn
  exact W.alen hx hb y1 y2 (by rw [y4]; rfl) rfl rfl hd (h p e R s m args below meth c n0 u0 H locs lsA C h1 h2 h3 h4 h5 h6 h7)
theorem g_gets {g : GE} {d : Nat} {Y : GM} {pc : Nat} {ls : List (Nat × Value)} {st : List Value} {w : GW} {Q : Option Value → GW → Prop} {idx : Nat} (i : Nat) (hd : decode Y.2.1 pc = .ok (.getstatic idx, 3)) (hi : i < 5) (hl : Cond.fieldLink Y.1.cls idx (gzC i) (gzN i) "[I" ∈ gT) (kk : gF g d Y (pc + 3) ls (.ref (eO g i) :: st) w Q) : gF g d Y pc ls st w Q := by
  refine kk.pure fun r w' h => ?_
  intro p e R s m args below meth c n0 u0 H locs lsA C h1 h2 h3 h4 h5 h6 h7
  obtain ⟨hx, hb, hml, hown, hts, hlk, hrt, hnm, hK, hZ, hAO, hdf, hdl⟩ := id C
  exact va_gets hx hb (hZ i hi) h6 hown (hts _ hl) (fun _ h => h) hd (h p e R s m args below meth c n0 u0 H locs lsA C h1 h2 h3 h4 h5 h6 h7)
def gnw (own : String) (idx ci : Nat) : Prop := ∃ q : vw_C, vwCl[ci]? = some q ∧ Cond.classLink own idx q.1 ∈ gT ∧ Cond.instantiable q.1 q.2.2 ∈ gT ∧ Cond.initialized q.1 ∈ gT
theorem gTy_def : ∀ ci, ci < 10 → ∀ k, k < gNF ci → defaultValue (gTy ci k) = if gTI ci k = true then .int 0 else .null := by decide +kernel
theorem g_new {g : GE} {d : Nat} {Y : GM} {pc : Nat} {ls : List (Nat × Value)} {st : List Value} {w : GW} {Q : Option Value → GW → Prop} {idx : Nat} (ci N : Nat) (hd : decode Y.2.1 pc = .ok (.new idx, 3)) (hw : gnw Y.1.cls idx ci) (hN : gNF ci = N) (kk : gF g d Y (pc + 3) ls (.ref (gN w) :: st) (newO w ci N) Q) : gF g d Y pc ls st w Q := by
  subst hN
  refine kk.step (Nat.le_succ _) (Nat.le_add_right _ _) fun r w' hn hu h => ?_
  intro p e R s m args below meth c n0 u0 H locs lsA C h1 h2 h3 h4 h5 h6 h7
  obtain ⟨hx, hb, hml, hown, hts, hlk, hrt, hnm, hK, hZ, hAO, hdf, hdl⟩ := id C
  obtain ⟨qc, hq, f1, f2, f3⟩ := hw
  obtain ⟨z1, z2, z3, z4, z5⟩ := g_cl hq
  have hKn := hK.1 ci _ hq
  have hn' : gN w + 1 ≤ gN w' := hn
  have hu' : gU w + gNF ci ≤ gU w' := hu
  refine W.newcK (n := qc.2.2) hx hb hown (hts _ f1) (hts _ f2) (hts _ f3) rfl hd (by omega) (by omega) hKn.2.1 h5.1 fun H1 kC hkC e1 y1 o1 => ?_
  have e5 : gN w - n0 + 1 = gN (newO w ci (gNF ci)) - n0 := by show _ = gN w + 1 - n0; omega
  have e6 : gU w - u0 + qc.2.2 = gU (newO w ci (gNF ci)) - u0 := by show _ = gU w + gNF ci - u0; omega
  rw [e5, e6]
  refine h p e R s m args below meth c n0 u0 H1 _ lsA C (by show n0 ≤ gN w + 1; omega) (by show u0 ≤ gU w + gNF ci; omega) h3 h4 ?_ (gS.push h6 (by rw [y1, h5.1]) (by rw [h5.1]; exact o1)) h7
  refine h5.push (by rw [y1, h5.1]) (by rw [h5.1]; exact o1) rfl (fun x hx2 hat => ?_) (Or.inl ⟨?_, ?_⟩)
  · have hne : x ≠ gN w := Nat.ne_of_lt hx2
    refine hat.same (by simp only [gK_newO, va_up, if_neg hne]) rfl (fun c2 k2 => ?_) (fun _ _ => rfl)
    simp only [gV, gI_newO, gR_newO, nul2, if_neg hne]
  · rw [gK_newO, va_up_self]; exact z5
  · rw [gK_newO, va_up_self, ← z1]
    refine t_OB.to (u_born (gTy ci) hts z2 hKn hkC e1 z3) (fun j hj => ?_)
    rw [gTy_def ci z5 j (by rw [← z1]; exact hj)]
    by_cases e : gTI ci j = true
    · simp [gV, e, gI_newO, nul2]
    · simp [gV, e, gR_newO, nul2, va_rf]
def gKd (a : ArrayType) : Nat := match a with | .double => 10 | .int => 11 | _ => 12
theorem g_newD {g : GE} {d : Nat} {Y : GM} {pc : Nat} {ls : List (Nat × Value)} {st : List Value} {w : GW} {Q : Option Value → GW → Prop} {i : Int32} (L : Nat) (hd : decode Y.2.1 pc = .ok (.newarray .double, 2)) (hw : Cond.arrayClass .double ∈ gT) (hi : i = nI L) (hL : L ≤ 1000000) (kk : gF g d Y (pc + 2) ls (.ref (gN w) :: st) (newA w 10 L) Q) : gF g d Y pc ls (.int i :: st) w Q := by
  subst hi
  refine kk.step (Nat.le_succ _) (Nat.le_add_right _ _) fun r w' hn hu h => ?_
  intro p e R s m args below meth c n0 u0 H locs lsA C h1 h2 h3 h4 h5 h6 h7
  obtain ⟨hx, hb, hml, hown, hts, hlk, hrt, hnm, hK, hZ, hAO, hdf, hdl⟩ := id C
  have hn' : gN w + 1 ≤ gN w' := hn
  have hu' : gU w + L ≤ gU w' := hu
  refine va_newaK (atype := .double) hx hb (hts _ hw) rfl hd rfl (nI_pos (by omega)) (nI_clamp (by omega)) (Nat.le_trans (Nat.mul_le_mul_right _ hL) (by decide)) (by omega) (by omega) h5.1 fun H1 cA e1 y1 o1 hAr hNm => ?_
  have hcA : cA = eC g 10 := Option.some.inj (hNm.symm.trans (hK.2 0 _ rfl).2)
  subst hcA
  have e5 : gN w - n0 + 1 = gN (newA w 10 L) - n0 := by show _ = gN w + 1 - n0; omega
  have e6 : gU w - u0 + L = gU (newA w 10 L) - u0 := by show _ = gU w + L - u0; omega
  rw [e5, e6]
  refine h p e R s m args below meth c n0 u0 H1 _ lsA C (by show n0 ≤ gN w + 1; omega) (by show u0 ≤ gU w + L; omega) h3 h4 ?_ (gS.push h6 (by rw [y1, h5.1]) (by rw [h5.1]; exact o1)) h7
  refine h5.push (by rw [y1, h5.1]) (by rw [h5.1]; exact o1) rfl (fun x hx2 hat => ?_) (Or.inr ⟨?_, ?_, ?_, ?_⟩)
  · have hne : x ≠ gN w := Nat.ne_of_lt hx2
    refine hat.same (by simp only [gK_newA, va_up, if_neg hne]) (by simp only [gL_newA, va_up, if_neg hne]) (fun _ _ => rfl) (fun c2 k2 => ?_)
    simp only [gE, gA_newA, gD_newA, gP_newA, nul1, if_neg hne]
  · rw [gK_newA, va_up_self]; decide
  · rw [gK_newA, va_up_self]; decide
  · rw [gL_newA, va_up_self]; omega
  · rw [gK_newA, va_up_self, gL_newA, va_up_self, e1]
    congr 2
    funext j
    simp [gE, gA_newA, gD_newA, gP_newA, nul1, newarray.typeOf, defaultValue]
theorem g_newI {g : GE} {d : Nat} {Y : GM} {pc : Nat} {ls : List (Nat × Value)} {st : List Value} {w : GW} {Q : Option Value → GW → Prop} {i : Int32} (L : Nat) (hd : decode Y.2.1 pc = .ok (.newarray .int, 2)) (hw : Cond.arrayClass .int ∈ gT) (hi : i = nI L) (hL : L ≤ 1000000) (kk : gF g d Y (pc + 2) ls (.ref (gN w) :: st) (newA w 11 L) Q) : gF g d Y pc ls (.int i :: st) w Q := by
  subst hi
  refine kk.step (Nat.le_succ _) (Nat.le_add_right _ _) fun r w' hn hu h => ?_
  intro p e R s m args below meth c n0 u0 H locs lsA C h1 h2 h3 h4 h5 h6 h7
  obtain ⟨hx, hb, hml, hown, hts, hlk, hrt, hnm, hK, hZ, hAO, hdf, hdl⟩ := id C
  have hn' : gN w + 1 ≤ gN w' := hn
  have hu' : gU w + L ≤ gU w' := hu
  refine va_newaK (atype := .int) hx hb (hts _ hw) rfl hd rfl (nI_pos (by omega)) (nI_clamp (by omega)) (Nat.le_trans (Nat.mul_le_mul_right _ hL) (by decide)) (by omega) (by omega) h5.1 fun H1 cA e1 y1 o1 hAr hNm => ?_
  have hcA : cA = eC g 11 := Option.some.inj (hNm.symm.trans (hK.2 1 _ rfl).2)
  subst hcA
  have e5 : gN w - n0 + 1 = gN (newA w 11 L) - n0 := by show _ = gN w + 1 - n0; omega
  have e6 : gU w - u0 + L = gU (newA w 11 L) - u0 := by show _ = gU w + L - u0; omega
  rw [e5, e6]
  refine h p e R s m args below meth c n0 u0 H1 _ lsA C (by show n0 ≤ gN w + 1; omega) (by show u0 ≤ gU w + L; omega) h3 h4 ?_ (gS.push h6 (by rw [y1, h5.1]) (by rw [h5.1]; exact o1)) h7
  refine h5.push (by rw [y1, h5.1]) (by rw [h5.1]; exact o1) rfl (fun x hx2 hat => ?_) (Or.inr ⟨?_, ?_, ?_, ?_⟩)
  · have hne : x ≠ gN w := Nat.ne_of_lt hx2
    refine hat.same (by simp only [gK_newA, va_up, if_neg hne]) (by simp only [gL_newA, va_up, if_neg hne]) (fun _ _ => rfl) (fun c2 k2 => ?_)
    simp only [gE, gA_newA, gD_newA, gP_newA, nul1, if_neg hne]
  · rw [gK_newA, va_up_self]; decide
  · rw [gK_newA, va_up_self]; decide
  · rw [gL_newA, va_up_self]; omega
  · rw [gK_newA, va_up_self, gL_newA, va_up_self, e1]
    congr 2
    funext j
    simp [gE, gA_newA, gD_newA, gP_newA, nul1, newarray.typeOf, defaultValue]
theorem g_newZ {g : GE} {d : Nat} {Y : GM} {pc : Nat} {ls : List (Nat × Value)} {st : List Value} {w : GW} {Q : Option Value → GW → Prop} {i : Int32} (L : Nat) (hd : decode Y.2.1 pc = .ok (.newarray .boolean, 2)) (hw : Cond.arrayClass .boolean ∈ gT) (hi : i = nI L) (hL : L ≤ 1000000) (kk : gF g d Y (pc + 2) ls (.ref (gN w) :: st) (newA w 12 L) Q) : gF g d Y pc ls (.int i :: st) w Q := by
  subst hi
  refine kk.step (Nat.le_succ _) (Nat.le_add_right _ _) fun r w' hn hu h => ?_
  intro p e R s m args below meth c n0 u0 H locs lsA C h1 h2 h3 h4 h5 h6 h7
  obtain ⟨hx, hb, hml, hown, hts, hlk, hrt, hnm, hK, hZ, hAO, hdf, hdl⟩ := id C
  have hn' : gN w + 1 ≤ gN w' := hn
  have hu' : gU w + L ≤ gU w' := hu
  refine va_newaK (atype := .boolean) hx hb (hts _ hw) rfl hd rfl (nI_pos (by omega)) (nI_clamp (by omega)) (Nat.le_trans (Nat.mul_le_mul_right _ hL) (by decide)) (by omega) (by omega) h5.1 fun H1 cA e1 y1 o1 hAr hNm => ?_
  have hcA : cA = eC g 12 := Option.some.inj (hNm.symm.trans (hK.2 2 _ rfl).2)
  subst hcA
  have e5 : gN w - n0 + 1 = gN (newA w 12 L) - n0 := by show _ = gN w + 1 - n0; omega
  have e6 : gU w - u0 + L = gU (newA w 12 L) - u0 := by show _ = gU w + L - u0; omega
  rw [e5, e6]
  refine h p e R s m args below meth c n0 u0 H1 _ lsA C (by show n0 ≤ gN w + 1; omega) (by show u0 ≤ gU w + L; omega) h3 h4 ?_ (gS.push h6 (by rw [y1, h5.1]) (by rw [h5.1]; exact o1)) h7
  refine h5.push (by rw [y1, h5.1]) (by rw [h5.1]; exact o1) rfl (fun x hx2 hat => ?_) (Or.inr ⟨?_, ?_, ?_, ?_⟩)
  · have hne : x ≠ gN w := Nat.ne_of_lt hx2
    refine hat.same (by simp only [gK_newA, va_up, if_neg hne]) (by simp only [gL_newA, va_up, if_neg hne]) (fun _ _ => rfl) (fun c2 k2 => ?_)
    simp only [gE, gA_newA, gD_newA, gP_newA, nul1, if_neg hne]
  · rw [gK_newA, va_up_self]; decide
  · rw [gK_newA, va_up_self]; decide
  · rw [gL_newA, va_up_self]; omega
  · rw [gK_newA, va_up_self, gL_newA, va_up_self, e1]
    congr 2
    funext j
    simp [gE, gA_newA, gD_newA, gP_newA, nul1, newarray.typeOf, defaultValue]
theorem g_anew13 {g : GE} {d : Nat} {Y : GM} {pc : Nat} {ls : List (Nat × Value)} {st : List Value} {w : GW} {Q : Option Value → GW → Prop} {idx : Nat} {i : Int32} (L : Nat) (hd : decode Y.2.1 pc = .ok (.anewarray idx, 3)) (hw : Cond.classLink Y.1.cls idx RX5 ∈ gT) (hi : i = nI L) (hL : L ≤ 1000000) (kk : gF g d Y (pc + 3) ls (.ref (gN w) :: st) (newA w 13 L) Q) : gF g d Y pc ls (.int i :: st) w Q := by
  subst hi
  refine kk.step (Nat.le_succ _) (Nat.le_add_right _ _) fun r w' hn hu h => ?_
  intro p e R s m args below meth c n0 u0 H locs lsA C h1 h2 h3 h4 h5 h6 h7
  obtain ⟨hx, hb, hml, hown, hts, hlk, hrt, hnm, hK, hZ, hAO, hdf, hdl⟩ := id C
  have hn' : gN w + 1 ≤ gN w' := hn
  have hu' : gU w + L ≤ gU w' := hu
  have hcl : (nI L).toNatClampNeg = L := nI_clamp (by omega)
  have hover : va_AO RX5 s := hAO.1
  refine W.anew hx hb hown (hts _ hw) (va_AO.use hover) rfl hd rfl (nI_pos (by omega)) (by rw [hcl]; exact Nat.le_trans (Nat.mul_le_mul_right _ hL) (by decide)) (by omega) (by rw [hcl]; omega) fun cA kA comp f1 f2 f3 f4 => ?_
  rw [hcl]
  have hcA : cA = eC g 13 := by
    obtain ⟨_, _, -, -, -, y⟩ := (hK.2 3 _ rfl).2
    exact Option.some.inj (f1.symm.trans y)
  subst hcA
  generalize hH1 : H.push ({ cls := eC g 13, slots := Array.replicate L .null, vm := .none } : Cell) = H1
  have y1 : H1.size = H.size + 1 := by rw [← hH1, Array.size_push]
  have e1 : H1[H.size]? = some (arrV (eC g 13) L (fun _ => .null)) := by rw [← hH1, Array.getElem?_push_size, ← arrV_new]
  have o1 : ∀ q : Nat, q < H.size → H1[q]? = H[q]? := fun q hq => by rw [← hH1, Array.getElem?_push, if_neg (Nat.ne_of_lt hq)]
  rw [h5.1]
  rw [h5.1] at e1
  have e5 : gN w - n0 + 1 = gN (newA w 13 L) - n0 := by show _ = gN w + 1 - n0; omega
  have e6 : gU w - u0 + L = gU (newA w 13 L) - u0 := by show _ = gU w + L - u0; omega
  rw [e5, e6]
  refine h p e R s m args below meth c n0 u0 H1 _ lsA C (by show n0 ≤ gN w + 1; omega) (by show u0 ≤ gU w + L; omega) h3 h4 ?_ (gS.push h6 y1 o1) h7
  refine h5.push y1 o1 rfl (fun x hx2 hat => ?_) (Or.inr ⟨?_, ?_, ?_, ?_⟩)
  · have hne : x ≠ gN w := Nat.ne_of_lt hx2
    refine hat.same (by simp only [gK_newA, va_up, if_neg hne]) (by simp only [gL_newA, va_up, if_neg hne]) (fun _ _ => rfl) (fun c2 k2 => ?_)
    simp only [gE, gA_newA, gD_newA, gP_newA, nul1, if_neg hne]
  · rw [gK_newA, va_up_self]; decide
  · rw [gK_newA, va_up_self]; decide
  · rw [gL_newA, va_up_self]; omega
  · rw [gK_newA, va_up_self, gL_newA, va_up_self, e1]
    congr 2
    funext j
    simp [gE, gP_newA, nul1, va_rf]
theorem g_anew14 {g : GE} {d : Nat} {Y : GM} {pc : Nat} {ls : List (Nat × Value)} {st : List Value} {w : GW} {Q : Option Value → GW → Prop} {idx : Nat} {i : Int32} (L : Nat) (hd : decode Y.2.1 pc = .ok (.anewarray idx, 3)) (hw : Cond.classLink Y.1.cls idx RX6 ∈ gT) (hi : i = nI L) (hL : L ≤ 1000000) (kk : gF g d Y (pc + 3) ls (.ref (gN w) :: st) (newA w 14 L) Q) : gF g d Y pc ls (.int i :: st) w Q := by
  subst hi
  refine kk.step (Nat.le_succ _) (Nat.le_add_right _ _) fun r w' hn hu h => ?_
  intro p e R s m args below meth c n0 u0 H locs lsA C h1 h2 h3 h4 h5 h6 h7
  obtain ⟨hx, hb, hml, hown, hts, hlk, hrt, hnm, hK, hZ, hAO, hdf, hdl⟩ := id C
  have hn' : gN w + 1 ≤ gN w' := hn
  have hu' : gU w + L ≤ gU w' := hu
  have hcl : (nI L).toNatClampNeg = L := nI_clamp (by omega)
  have hover : va_AO RX6 s := hAO.2.1
  refine W.anew hx hb hown (hts _ hw) (va_AO.use hover) rfl hd rfl (nI_pos (by omega)) (by rw [hcl]; exact Nat.le_trans (Nat.mul_le_mul_right _ hL) (by decide)) (by omega) (by rw [hcl]; omega) fun cA kA comp f1 f2 f3 f4 => ?_
  rw [hcl]
  have hcA : cA = eC g 14 := by
    obtain ⟨_, _, -, -, -, y⟩ := (hK.2 4 _ rfl).2
    exact Option.some.inj (f1.symm.trans y)
  subst hcA
  generalize hH1 : H.push ({ cls := eC g 14, slots := Array.replicate L .null, vm := .none } : Cell) = H1
  have y1 : H1.size = H.size + 1 := by rw [← hH1, Array.size_push]
  have e1 : H1[H.size]? = some (arrV (eC g 14) L (fun _ => .null)) := by rw [← hH1, Array.getElem?_push_size, ← arrV_new]
  have o1 : ∀ q : Nat, q < H.size → H1[q]? = H[q]? := fun q hq => by rw [← hH1, Array.getElem?_push, if_neg (Nat.ne_of_lt hq)]
  rw [h5.1]
  rw [h5.1] at e1
  have e5 : gN w - n0 + 1 = gN (newA w 14 L) - n0 := by show _ = gN w + 1 - n0; omega
  have e6 : gU w - u0 + L = gU (newA w 14 L) - u0 := by show _ = gU w + L - u0; omega
  rw [e5, e6]
  refine h p e R s m args below meth c n0 u0 H1 _ lsA C (by show n0 ≤ gN w + 1; omega) (by show u0 ≤ gU w + L; omega) h3 h4 ?_ (gS.push h6 y1 o1) h7
  refine h5.push y1 o1 rfl (fun x hx2 hat => ?_) (Or.inr ⟨?_, ?_, ?_, ?_⟩)
  · have hne : x ≠ gN w := Nat.ne_of_lt hx2
    refine hat.same (by simp only [gK_newA, va_up, if_neg hne]) (by simp only [gL_newA, va_up, if_neg hne]) (fun _ _ => rfl) (fun c2 k2 => ?_)
    simp only [gE, gA_newA, gD_newA, gP_newA, nul1, if_neg hne]
  · rw [gK_newA, va_up_self]; decide
  · rw [gK_newA, va_up_self]; decide
  · rw [gL_newA, va_up_self]; omega
  · rw [gK_newA, va_up_self, gL_newA, va_up_self, e1]
    congr 2
    funext j
    simp [gE, gP_newA, nul1, va_rf]
theorem g_anew15 {g : GE} {d : Nat} {Y : GM} {pc : Nat} {ls : List (Nat × Value)} {st : List Value} {w : GW} {Q : Option Value → GW → Prop} {idx : Nat} {i : Int32} (L : Nat) (hd : decode Y.2.1 pc = .ok (.anewarray idx, 3)) (hw : Cond.classLink Y.1.cls idx RX7 ∈ gT) (hi : i = nI L) (hL : L ≤ 1000000) (kk : gF g d Y (pc + 3) ls (.ref (gN w) :: st) (newA w 15 L) Q) : gF g d Y pc ls (.int i :: st) w Q := by
  subst hi
  refine kk.step (Nat.le_succ _) (Nat.le_add_right _ _) fun r w' hn hu h => ?_
  intro p e R s m args below meth c n0 u0 H locs lsA C h1 h2 h3 h4 h5 h6 h7
  obtain ⟨hx, hb, hml, hown, hts, hlk, hrt, hnm, hK, hZ, hAO, hdf, hdl⟩ := id C
  have hn' : gN w + 1 ≤ gN w' := hn
  have hu' : gU w + L ≤ gU w' := hu
  have hcl : (nI L).toNatClampNeg = L := nI_clamp (by omega)
  have hover : va_AO RX7 s := hAO.2.2
  refine W.anew hx hb hown (hts _ hw) (va_AO.use hover) rfl hd rfl (nI_pos (by omega)) (by rw [hcl]; exact Nat.le_trans (Nat.mul_le_mul_right _ hL) (by decide)) (by omega) (by rw [hcl]; omega) fun cA kA comp f1 f2 f3 f4 => ?_
  rw [hcl]
  have hcA : cA = eC g 15 := by
    obtain ⟨_, _, -, -, -, y⟩ := (hK.2 5 _ rfl).2
    exact Option.some.inj (f1.symm.trans y)
  subst hcA
  generalize hH1 : H.push ({ cls := eC g 15, slots := Array.replicate L .null, vm := .none } : Cell) = H1
  have y1 : H1.size = H.size + 1 := by rw [← hH1, Array.size_push]
  have e1 : H1[H.size]? = some (arrV (eC g 15) L (fun _ => .null)) := by rw [← hH1, Array.getElem?_push_size, ← arrV_new]
  have o1 : ∀ q : Nat, q < H.size → H1[q]? = H[q]? := fun q hq => by rw [← hH1, Array.getElem?_push, if_neg (Nat.ne_of_lt hq)]
  rw [h5.1]
  rw [h5.1] at e1
  have e5 : gN w - n0 + 1 = gN (newA w 15 L) - n0 := by show _ = gN w + 1 - n0; omega
  have e6 : gU w - u0 + L = gU (newA w 15 L) - u0 := by show _ = gU w + L - u0; omega
  rw [e5, e6]
  refine h p e R s m args below meth c n0 u0 H1 _ lsA C (by show n0 ≤ gN w + 1; omega) (by show u0 ≤ gU w + L; omega) h3 h4 ?_ (gS.push h6 y1 o1) h7
  refine h5.push y1 o1 rfl (fun x hx2 hat => ?_) (Or.inr ⟨?_, ?_, ?_, ?_⟩)
  · have hne : x ≠ gN w := Nat.ne_of_lt hx2
    refine hat.same (by simp only [gK_newA, va_up, if_neg hne]) (by simp only [gL_newA, va_up, if_neg hne]) (fun _ _ => rfl) (fun c2 k2 => ?_)
    simp only [gE, gA_newA, gD_newA, gP_newA, nul1, if_neg hne]
  · rw [gK_newA, va_up_self]; decide
  · rw [gK_newA, va_up_self]; decide
  · rw [gL_newA, va_up_self]; omega
  · rw [gK_newA, va_up_self, gL_newA, va_up_self, e1]
    congr 2
    funext j
    simp [gE, gP_newA, nul1, va_rf]
theorem g_iret {g : GE} {d : Nat} {Y : GM} {pc : Nat} {ls : List (Nat × Value)} {w : GW} {Q : Option Value → GW → Prop} {x : Int32} (hd : decode Y.2.1 pc = .ok (.ireturn, 1)) (hr : Y.2.2.2 = some .int) (hq : Q (some (.int x)) w) : gF g d Y pc ls [.int x] w Q := by
  refine ⟨_, _, hq, Nat.le_refl _, Nat.le_refl _, ?_⟩
  intro p e R s m args below meth c n0 u0 H locs lsA C h1 h2 h3 h4 h5 h6 h7
  obtain ⟨hx, hb, hml, hown, hts, hlk, hrt, hnm, hK, hZ, hAO, hdf, hdl⟩ := id C
  exact W.iret hx hb (hrt.trans hr) (fun t ht hW => ⟨rfl, by rw [ht]; exact h5.moved hW.alike, h6.F ht⟩) h6.2.2 hd hlk
theorem g_zret {g : GE} {d : Nat} {Y : GM} {pc : Nat} {ls : List (Nat × Value)} {w : GW} {Q : Option Value → GW → Prop} {x : Int32} (hd : decode Y.2.1 pc = .ok (.ireturn, 1)) (hr : Y.2.2.2 = some .boolean) (hnb : narrow .boolean (.int x) = .int x) (hq : Q (some (.int x)) w) : gF g d Y pc ls [.int x] w Q := by
  refine ⟨_, _, hq, Nat.le_refl _, Nat.le_refl _, ?_⟩
  intro p e R s m args below meth c n0 u0 H locs lsA C h1 h2 h3 h4 h5 h6 h7
  obtain ⟨hx, hb, hml, hown, hts, hlk, hrt, hnm, hK, hZ, hAO, hdf, hdl⟩ := id C
  exact W.zret hx hb (hrt.trans hr) hnb (fun t ht hW => ⟨rfl, by rw [ht]; exact h5.moved hW.alike, h6.F ht⟩) h6.2.2 hd hlk
theorem g_lret {g : GE} {d : Nat} {Y : GM} {pc : Nat} {ls : List (Nat × Value)} {w : GW} {Q : Option Value → GW → Prop} {x : Int64} (hd : decode Y.2.1 pc = .ok (.lreturn, 1)) (hr : Y.2.2.2 = some .long) (hq : Q (some (.long x)) w) : gF g d Y pc ls [.long x] w Q := by
  refine ⟨_, _, hq, Nat.le_refl _, Nat.le_refl _, ?_⟩
  intro p e R s m args below meth c n0 u0 H locs lsA C h1 h2 h3 h4 h5 h6 h7
  obtain ⟨hx, hb, hml, hown, hts, hlk, hrt, hnm, hK, hZ, hAO, hdf, hdl⟩ := id C
  exact W.lret hx hb (hrt.trans hr) (fun t ht hW => ⟨rfl, by rw [ht]; exact h5.moved hW.alike, h6.F ht⟩) h6.2.2 hd hlk
theorem g_dret {g : GE} {d : Nat} {Y : GM} {pc : Nat} {ls : List (Nat × Value)} {w : GW} {Q : Option Value → GW → Prop} {x : UInt64} (hd : decode Y.2.1 pc = .ok (.dreturn, 1)) (hr : Y.2.2.2 = some .double) (hq : Q (some (.double x)) w) : gF g d Y pc ls [.double x] w Q := by
  refine ⟨_, _, hq, Nat.le_refl _, Nat.le_refl _, ?_⟩
  intro p e R s m args below meth c n0 u0 H locs lsA C h1 h2 h3 h4 h5 h6 h7
  obtain ⟨hx, hb, hml, hown, hts, hlk, hrt, hnm, hK, hZ, hAO, hdf, hdl⟩ := id C
  exact W.dret hx hb (hrt.trans hr) (fun t ht hW => ⟨rfl, by rw [ht]; exact h5.moved hW.alike, h6.F ht⟩) h6.2.2 hd hlk
theorem g_fret {g : GE} {d : Nat} {Y : GM} {pc : Nat} {ls : List (Nat × Value)} {w : GW} {Q : Option Value → GW → Prop} {x : UInt32} (hd : decode Y.2.1 pc = .ok (.freturn, 1)) (hr : Y.2.2.2 = some .float) (hq : Q (some (.float x)) w) : gF g d Y pc ls [.float x] w Q := by
  refine ⟨_, _, hq, Nat.le_refl _, Nat.le_refl _, ?_⟩
  intro p e R s m args below meth c n0 u0 H locs lsA C h1 h2 h3 h4 h5 h6 h7
  obtain ⟨hx, hb, hml, hown, hts, hlk, hrt, hnm, hK, hZ, hAO, hdf, hdl⟩ := id C
  exact W.fret hx hb (hrt.trans hr) (fun t ht hW => ⟨rfl, by rw [ht]; exact h5.moved hW.alike, h6.F ht⟩) h6.2.2 hd hlk
theorem g_vret {g : GE} {d : Nat} {Y : GM} {pc : Nat} {ls : List (Nat × Value)} {w : GW} {Q : Option Value → GW → Prop} (hd : decode Y.2.1 pc = .ok (.return_, 1)) (hr : Y.2.2.2 = none) (hq : Q (none) w) : gF g d Y pc ls [] w Q := by
  refine ⟨_, _, hq, Nat.le_refl _, Nat.le_refl _, ?_⟩
  intro p e R s m args below meth c n0 u0 H locs lsA C h1 h2 h3 h4 h5 h6 h7
  obtain ⟨hx, hb, hml, hown, hts, hlk, hrt, hnm, hK, hZ, hAO, hdf, hdl⟩ := id C
  exact W.vret hx hb (hrt.trans hr) (fun t ht hW => ⟨rfl, by rw [ht]; exact h5.moved hW.alike, h6.F ht⟩) h6.2.2 hd hlk
theorem g_aret {g : GE} {d : Nat} {Y : GM} {pc : Nat} {ls : List (Nat × Value)} {w : GW} {Q : Option Value → GW → Prop} {x : Nat} (hd : decode Y.2.1 pc = .ok (.areturn, 1)) {n : String} (hr : Y.2.2.2 = some (.object n)) (hq : Q (some (.ref x)) w) : gF g d Y pc ls [.ref x] w Q := by
  refine ⟨_, _, hq, Nat.le_refl _, Nat.le_refl _, ?_⟩
  intro p e R s m args below meth c n0 u0 H locs lsA C h1 h2 h3 h4 h5 h6 h7
  obtain ⟨hx, hb, hml, hown, hts, hlk, hrt, hnm, hK, hZ, hAO, hdf, hdl⟩ := id C
  exact W.aret hx hb (hrt.trans hr) (Or.inl ⟨_, rfl⟩) (Or.inr ⟨_, rfl⟩) (fun t ht hW => ⟨rfl, by rw [ht]; exact h5.moved hW.alike, h6.F ht⟩) h6.2.2 hd hlk
theorem g_aretN {g : GE} {d : Nat} {Y : GM} {pc : Nat} {ls : List (Nat × Value)} {w : GW} {Q : Option Value → GW → Prop} (hd : decode Y.2.1 pc = .ok (.areturn, 1)) {n : String} (hr : Y.2.2.2 = some (.object n)) (hq : Q (some .null) w) : gF g d Y pc ls [.null] w Q := by
  refine ⟨_, _, hq, Nat.le_refl _, Nat.le_refl _, ?_⟩
  intro p e R s m args below meth c n0 u0 H locs lsA C h1 h2 h3 h4 h5 h6 h7
  obtain ⟨hx, hb, hml, hown, hts, hlk, hrt, hnm, hK, hZ, hAO, hdf, hdl⟩ := id C
  exact W.aret hx hb (hrt.trans hr) (Or.inl ⟨_, rfl⟩) (Or.inl rfl) (fun t ht hW => ⟨rfl, by rw [ht]; exact h5.moved hW.alike, h6.F ht⟩) h6.2.2 hd hlk
