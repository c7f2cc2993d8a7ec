def tLA (j : Nat) : Int32 := match j with | 0 => 0 | 1 => 0 | 2 => 1 | 3 => 0 | 4 => 0 | 5 => 0 | 6 => 0 | 7 => 0 | 8 => 0 | 9 => 0 | 10 => 0 | 11 => 0 | 12 => 0 | 13 => 0 | 14 => 0 | 15 => 0 | 16 => 0 | 17 => 0 | 18 => 16 | 19 => 0 | 20 => 0 | 21 => 0 | 22 => 0 | 23 => 0 | _ => 0
def tMA (j : Nat) : Int32 := match j with | 0 => (-1) | 1 => (-1) | 2 => 11 | 3 => (-1) | 4 => 6 | 5 => (-1) | 6 => (-1) | 7 => 99 | 8 => (-1) | 9 => 99 | 10 => (-1) | 11 => 7 | 12 => 3 | 13 => 17 | 14 => 17 | 15 => 17 | 16 => 17 | 17 => 17 | 18 => 17 | 19 => 7 | 20 => 13 | 21 => 13 | 22 => 7 | 23 => 7 | _ => 7
def tMB (j : Nat) : Int32 := match j with | 0 => (-1) | 1 => (-1) | 2 => (-1) | 3 => (-1) | 4 => (-1) | 5 => (-1) | 6 => (-1) | 7 => (-1) | 8 => (-1) | 9 => (-1) | 10 => (-1) | 11 => 3 | 12 => (-1) | 13 => 7 | 14 => (-1) | 15 => 7 | 16 => 7 | 17 => 7 | 18 => 7 | 19 => (-1) | 20 => 7 | 21 => 7 | 22 => 7 | 23 => 7 | _ => (-1)
def tMC (j : Nat) : Int32 := match j with | 0 => (-1) | 1 => (-1) | 2 => (-1) | 3 => (-1) | 4 => (-1) | 5 => (-1) | 6 => (-1) | 7 => (-1) | 8 => (-1) | 9 => (-1) | 10 => (-1) | 11 => 7 | 12 => (-1) | 13 => (-1) | 14 => (-1) | 15 => (-1) | 16 => 7 | 17 => 7 | 18 => (-1) | 19 => (-1) | 20 => 7 | 21 => 7 | 22 => 7 | 23 => 7 | _ => (-1)
/-- the class's tables, as its start has laid them -/
def STt (g : GE) : Prop := (eOL g 0 = 25 ∧ ∀ j, j < 25 → eOF g 0 j = tLA j) ∧ (eOL g 1 = 25 ∧ ∀ j, j < 25 → eOF g 1 j = tMA j) ∧ (eOL g 2 = 25 ∧ ∀ j, j < 25 → eOF g 2 j = tMB j) ∧ (eOL g 3 = 25 ∧ ∀ j, j < 25 → eOF g 3 j = tMC j)
def fT (j : Nat) (a b c : Int32) : Int32 := if fWithin a (tLA j) (tMA j) = 0 then 0 else if fWithin b 0 (tMB j) = 0 then 0 else if fWithin c 0 (tMC j) = 0 then 0 else 1
theorem fT_01 (j : Nat) (a b c : Int32) : fT j a b c = 0 ∨ fT j a b c = 1 := by
  unfold fT
  split
  · exact Or.inl rfl
  split
  · exact Or.inl rfl
  split
  · exact Or.inl rfl
  · exact Or.inr rfl
theorem fWithin_in {v lo hi : Int32} (h : ¬ hi < 0) : fWithin v lo hi = fIn v lo hi := by
  unfold fWithin fIn
  rw [if_neg h]
  by_cases h1 : v < lo
  · rw [if_pos h1, if_pos (Or.inl h1)]
  · by_cases h2 : hi < v
    · rw [if_neg h1, if_pos h2, if_pos (Or.inr h2)]
    · rw [if_neg h1, if_neg h2, if_neg (by rintro (z | z); exact h1 z; exact h2 z)]
theorem fWithin_any {v lo : Int32} : fWithin v lo (-1) = 1 := by unfold fWithin; rw [if_pos (by decide)]
theorem fT_0 (a b c : Int32) : fT 0 a b c = 1 := by
  show (if fWithin a 0 (-1) = 0 then _ else if fWithin b 0 (-1) = 0 then _ else if fWithin c 0 (-1) = 0 then _ else _) = _
  rw [fWithin_any (v := a), fWithin_any (v := b), fWithin_any (v := c)]
  rfl
theorem fT_1 (a b c : Int32) : fT 1 a b c = 1 := by
  show (if fWithin a 0 (-1) = 0 then _ else if fWithin b 0 (-1) = 0 then _ else if fWithin c 0 (-1) = 0 then _ else _) = _
  rw [fWithin_any (v := a), fWithin_any (v := b), fWithin_any (v := c)]
  rfl
theorem fT_2 (a b c : Int32) : fT 2 a b c = fIn a 1 11 := by
  show (if fWithin a 1 (11) = 0 then _ else if fWithin b 0 (-1) = 0 then _ else if fWithin c 0 (-1) = 0 then _ else _) = _
  rw [fWithin_in (v := a) (lo := 1) (hi := 11) (by decide), fWithin_any (v := b), fWithin_any (v := c)]
  rcases fIn_01 a 1 11 with z | z <;> rw [z] <;> rfl
theorem fT_3 (a b c : Int32) : fT 3 a b c = 1 := by
  show (if fWithin a 0 (-1) = 0 then _ else if fWithin b 0 (-1) = 0 then _ else if fWithin c 0 (-1) = 0 then _ else _) = _
  rw [fWithin_any (v := a), fWithin_any (v := b), fWithin_any (v := c)]
  rfl
theorem fT_4 (a b c : Int32) : fT 4 a b c = fIn a 0 6 := by
  show (if fWithin a 0 (6) = 0 then _ else if fWithin b 0 (-1) = 0 then _ else if fWithin c 0 (-1) = 0 then _ else _) = _
  rw [fWithin_in (v := a) (lo := 0) (hi := 6) (by decide), fWithin_any (v := b), fWithin_any (v := c)]
  rcases fIn_01 a 0 6 with z | z <;> rw [z] <;> rfl
theorem fT_5 (a b c : Int32) : fT 5 a b c = 1 := by
  show (if fWithin a 0 (-1) = 0 then _ else if fWithin b 0 (-1) = 0 then _ else if fWithin c 0 (-1) = 0 then _ else _) = _
  rw [fWithin_any (v := a), fWithin_any (v := b), fWithin_any (v := c)]
  rfl
theorem fT_6 (a b c : Int32) : fT 6 a b c = 1 := by
  show (if fWithin a 0 (-1) = 0 then _ else if fWithin b 0 (-1) = 0 then _ else if fWithin c 0 (-1) = 0 then _ else _) = _
  rw [fWithin_any (v := a), fWithin_any (v := b), fWithin_any (v := c)]
  rfl
theorem fT_7 (a b c : Int32) : fT 7 a b c = fIn a 0 99 := by
  show (if fWithin a 0 (99) = 0 then _ else if fWithin b 0 (-1) = 0 then _ else if fWithin c 0 (-1) = 0 then _ else _) = _
  rw [fWithin_in (v := a) (lo := 0) (hi := 99) (by decide), fWithin_any (v := b), fWithin_any (v := c)]
  rcases fIn_01 a 0 99 with z | z <;> rw [z] <;> rfl
theorem fT_8 (a b c : Int32) : fT 8 a b c = 1 := by
  show (if fWithin a 0 (-1) = 0 then _ else if fWithin b 0 (-1) = 0 then _ else if fWithin c 0 (-1) = 0 then _ else _) = _
  rw [fWithin_any (v := a), fWithin_any (v := b), fWithin_any (v := c)]
  rfl
theorem fT_9 (a b c : Int32) : fT 9 a b c = fIn a 0 99 := by
  show (if fWithin a 0 (99) = 0 then _ else if fWithin b 0 (-1) = 0 then _ else if fWithin c 0 (-1) = 0 then _ else _) = _
  rw [fWithin_in (v := a) (lo := 0) (hi := 99) (by decide), fWithin_any (v := b), fWithin_any (v := c)]
  rcases fIn_01 a 0 99 with z | z <;> rw [z] <;> rfl
theorem fT_10 (a b c : Int32) : fT 10 a b c = 1 := by
  show (if fWithin a 0 (-1) = 0 then _ else if fWithin b 0 (-1) = 0 then _ else if fWithin c 0 (-1) = 0 then _ else _) = _
  rw [fWithin_any (v := a), fWithin_any (v := b), fWithin_any (v := c)]
  rfl
theorem fT_11 (a b c : Int32) : fT 11 a b c = (if fIn a 0 7 = 0 then 0 else (if fIn b 0 3 = 0 then 0 else (if fIn c 0 7 = 0 then 0 else 1))) := by
  show (if fWithin a 0 (7) = 0 then _ else if fWithin b 0 (3) = 0 then _ else if fWithin c 0 (7) = 0 then _ else _) = _
  rw [fWithin_in (v := a) (lo := 0) (hi := 7) (by decide), fWithin_in (v := b) (lo := 0) (hi := 3) (by decide), fWithin_in (v := c) (lo := 0) (hi := 7) (by decide)]
theorem fT_12 (a b c : Int32) : fT 12 a b c = fIn a 0 3 := by
  show (if fWithin a 0 (3) = 0 then _ else if fWithin b 0 (-1) = 0 then _ else if fWithin c 0 (-1) = 0 then _ else _) = _
  rw [fWithin_in (v := a) (lo := 0) (hi := 3) (by decide), fWithin_any (v := b), fWithin_any (v := c)]
  rcases fIn_01 a 0 3 with z | z <;> rw [z] <;> rfl
theorem fT_13 (a b c : Int32) : fT 13 a b c = (if fIn a 0 17 = 0 then 0 else (if fIn b 0 7 = 0 then 0 else 1)) := by
  show (if fWithin a 0 (17) = 0 then _ else if fWithin b 0 (7) = 0 then _ else if fWithin c 0 (-1) = 0 then _ else _) = _
  rw [fWithin_in (v := a) (lo := 0) (hi := 17) (by decide), fWithin_in (v := b) (lo := 0) (hi := 7) (by decide), fWithin_any (v := c)]
  rw [if_neg (c := (1 : Int32) = 0) (by decide)]
theorem fT_14 (a b c : Int32) : fT 14 a b c = fIn a 0 17 := by
  show (if fWithin a 0 (17) = 0 then _ else if fWithin b 0 (-1) = 0 then _ else if fWithin c 0 (-1) = 0 then _ else _) = _
  rw [fWithin_in (v := a) (lo := 0) (hi := 17) (by decide), fWithin_any (v := b), fWithin_any (v := c)]
  rcases fIn_01 a 0 17 with z | z <;> rw [z] <;> rfl
theorem fT_15 (a b c : Int32) : fT 15 a b c = (if fIn a 0 17 = 0 then 0 else (if fIn b 0 7 = 0 then 0 else 1)) := by
  show (if fWithin a 0 (17) = 0 then _ else if fWithin b 0 (7) = 0 then _ else if fWithin c 0 (-1) = 0 then _ else _) = _
  rw [fWithin_in (v := a) (lo := 0) (hi := 17) (by decide), fWithin_in (v := b) (lo := 0) (hi := 7) (by decide), fWithin_any (v := c)]
  rw [if_neg (c := (1 : Int32) = 0) (by decide)]
theorem fT_16 (a b c : Int32) : fT 16 a b c = (if fIn a 0 17 = 0 then 0 else (if fIn b 0 7 = 0 then 0 else (if fIn c 0 7 = 0 then 0 else 1))) := by
  show (if fWithin a 0 (17) = 0 then _ else if fWithin b 0 (7) = 0 then _ else if fWithin c 0 (7) = 0 then _ else _) = _
  rw [fWithin_in (v := a) (lo := 0) (hi := 17) (by decide), fWithin_in (v := b) (lo := 0) (hi := 7) (by decide), fWithin_in (v := c) (lo := 0) (hi := 7) (by decide)]
theorem fT_17 (a b c : Int32) : fT 17 a b c = (if fIn a 0 17 = 0 then 0 else (if fIn b 0 7 = 0 then 0 else (if fIn c 0 7 = 0 then 0 else 1))) := by
  show (if fWithin a 0 (17) = 0 then _ else if fWithin b 0 (7) = 0 then _ else if fWithin c 0 (7) = 0 then _ else _) = _
  rw [fWithin_in (v := a) (lo := 0) (hi := 17) (by decide), fWithin_in (v := b) (lo := 0) (hi := 7) (by decide), fWithin_in (v := c) (lo := 0) (hi := 7) (by decide)]
theorem fT_18 (a b c : Int32) : fT 18 a b c = (if fIn a 16 17 = 0 then 0 else (if fIn b 0 7 = 0 then 0 else 1)) := by
  show (if fWithin a 16 (17) = 0 then _ else if fWithin b 0 (7) = 0 then _ else if fWithin c 0 (-1) = 0 then _ else _) = _
  rw [fWithin_in (v := a) (lo := 16) (hi := 17) (by decide), fWithin_in (v := b) (lo := 0) (hi := 7) (by decide), fWithin_any (v := c)]
  rw [if_neg (c := (1 : Int32) = 0) (by decide)]
theorem fT_19 (a b c : Int32) : fT 19 a b c = fIn a 0 7 := by
  show (if fWithin a 0 (7) = 0 then _ else if fWithin b 0 (-1) = 0 then _ else if fWithin c 0 (-1) = 0 then _ else _) = _
  rw [fWithin_in (v := a) (lo := 0) (hi := 7) (by decide), fWithin_any (v := b), fWithin_any (v := c)]
  rcases fIn_01 a 0 7 with z | z <;> rw [z] <;> rfl
theorem fT_20 (a b c : Int32) : fT 20 a b c = (if fIn a 0 13 = 0 then 0 else (if fIn b 0 7 = 0 then 0 else (if fIn c 0 7 = 0 then 0 else 1))) := by
  show (if fWithin a 0 (13) = 0 then _ else if fWithin b 0 (7) = 0 then _ else if fWithin c 0 (7) = 0 then _ else _) = _
  rw [fWithin_in (v := a) (lo := 0) (hi := 13) (by decide), fWithin_in (v := b) (lo := 0) (hi := 7) (by decide), fWithin_in (v := c) (lo := 0) (hi := 7) (by decide)]
theorem fT_21 (a b c : Int32) : fT 21 a b c = (if fIn a 0 13 = 0 then 0 else (if fIn b 0 7 = 0 then 0 else (if fIn c 0 7 = 0 then 0 else 1))) := by
  show (if fWithin a 0 (13) = 0 then _ else if fWithin b 0 (7) = 0 then _ else if fWithin c 0 (7) = 0 then _ else _) = _
  rw [fWithin_in (v := a) (lo := 0) (hi := 13) (by decide), fWithin_in (v := b) (lo := 0) (hi := 7) (by decide), fWithin_in (v := c) (lo := 0) (hi := 7) (by decide)]
theorem fT_22 (a b c : Int32) : fT 22 a b c = (if fIn a 0 7 = 0 then 0 else (if fIn b 0 7 = 0 then 0 else (if fIn c 0 7 = 0 then 0 else 1))) := by
  show (if fWithin a 0 (7) = 0 then _ else if fWithin b 0 (7) = 0 then _ else if fWithin c 0 (7) = 0 then _ else _) = _
  rw [fWithin_in (v := a) (lo := 0) (hi := 7) (by decide), fWithin_in (v := b) (lo := 0) (hi := 7) (by decide), fWithin_in (v := c) (lo := 0) (hi := 7) (by decide)]
theorem fT_23 (a b c : Int32) : fT 23 a b c = (if fIn a 0 7 = 0 then 0 else (if fIn b 0 7 = 0 then 0 else (if fIn c 0 7 = 0 then 0 else 1))) := by
  show (if fWithin a 0 (7) = 0 then _ else if fWithin b 0 (7) = 0 then _ else if fWithin c 0 (7) = 0 then _ else _) = _
  rw [fWithin_in (v := a) (lo := 0) (hi := 7) (by decide), fWithin_in (v := b) (lo := 0) (hi := 7) (by decide), fWithin_in (v := c) (lo := 0) (hi := 7) (by decide)]
theorem fT_24 (a b c : Int32) : fT 24 a b c = fIn a 0 7 := by
  show (if fWithin a 0 (7) = 0 then _ else if fWithin b 0 (-1) = 0 then _ else if fWithin c 0 (-1) = 0 then _ else _) = _
  rw [fWithin_in (v := a) (lo := 0) (hi := 7) (by decide), fWithin_any (v := b), fWithin_any (v := c)]
  rcases fIn_01 a 0 7 with z | z <;> rw [z] <;> rfl
set_option maxHeartbeats 4000000 in
set_option maxRecDepth 20000 in
theorem c_isTold {g : GE} {d : Nat} {w : GW} {Q : Option Value → GW → Prop} (hd : 1 ≤ d) {j : Nat} {a b c : Int32} (hT : STt g) (hj : j < 25) (k : Q (some (.int (fT j a b c))) w) : gM g d mX7_isTold [.int (nI j), .int a, .int b, .int c] w Q := by
  refine gM.of (by decide) (Nat.le_of_ble_eq_true rfl) ?_
  obtain ⟨⟨l0, f0⟩, ⟨l1, f1⟩, ⟨l2, f2⟩, ⟨l3, f3⟩⟩ := hT
  unfold fT at k
  refine g_iload_n dX7_isTold_0 rfl ?_
  refine g_if_lt 57 dX7_isTold_1 (by decide) (fun q => absurd q (nI_pos (by omega))) (fun _ => ?_)
  refine g_iload_n dX7_isTold_4 rfl ?_
  refine g_bipushV (v := 24) dX7_isTold_5 (by decide) ?_
  refine g_icmp_gt 57 dX7_isTold_7 (by decide) (fun q => absurd q (fun z => nI_ge (b := 25) hj (by decide) (by have := (Int32.lt_iff_toInt_lt.mp z); rw [nI_toInt (by omega)] at this; exact Int32.le_iff_toInt_le.mpr (by rw [nI_toInt (by decide), nI_toInt (by omega)]; have e : (24 : Int32).toInt = 24 := rfl; omega)))) (fun _ => ?_)
  refine g_iload_n dX7_isTold_10 rfl ?_
  refine g_gets 0 dX7_isTold_11 (by decide) zX7_31 ?_
  refine g_iload_n dX7_isTold_14 rfl ?_
  refine g_roald dX7_isTold_15 (by decide) rfl (by rw [l0]; exact hj) ?_
  rw [f0 j hj]
  refine g_gets 1 dX7_isTold_16 (by decide) zX7_35 ?_
  refine g_iload_n dX7_isTold_19 rfl ?_
  refine g_roald dX7_isTold_20 (by decide) rfl (by rw [l1]; exact hj) ?_
  rw [f1 j hj]
  refine g_callS (d1 := d - 1) (As := [_, _, _]) dX7_isTold_21 sX7_38 (by omega) rfl rfl (Nat.le_of_ble_eq_true rfl) ?_
  refine c_isWithin ?_
  refine g_if_eq 57 dX7_isTold_24 (by decide) (fun c1 => ?_) (fun c1 => ?_)
  · refine g_iconstV (v := 0) dX7_isTold_57 (by decide) ?_
    refine g_zret dX7_isTold_58 rfl rfl ?_
    rw [if_pos c1] at k
    exact k
  · refine g_iload_n dX7_isTold_27 rfl ?_
    refine g_iconstV (v := 0) dX7_isTold_28 (by decide) ?_
    refine g_gets 2 dX7_isTold_29 (by decide) zX7_42 ?_
    refine g_iload_n dX7_isTold_32 rfl ?_
    refine g_roald dX7_isTold_33 (by decide) rfl (by rw [l2]; exact hj) ?_
    rw [f2 j hj]
    refine g_callS (d1 := d - 1) (As := [_, _, _]) dX7_isTold_34 sX7_38 (by omega) rfl rfl (Nat.le_of_ble_eq_true rfl) ?_
    refine c_isWithin ?_
    refine g_if_eq 57 dX7_isTold_37 (by decide) (fun c2 => ?_) (fun c2 => ?_)
    · refine g_iconstV (v := 0) dX7_isTold_57 (by decide) ?_
      refine g_zret dX7_isTold_58 rfl rfl ?_
      rw [if_neg c1, if_pos c2] at k
      exact k
    · refine g_iload_n dX7_isTold_40 rfl ?_
      refine g_iconstV (v := 0) dX7_isTold_41 (by decide) ?_
      refine g_gets 3 dX7_isTold_42 (by decide) zX7_45 ?_
      refine g_iload_n dX7_isTold_45 rfl ?_
      refine g_roald dX7_isTold_46 (by decide) rfl (by rw [l3]; exact hj) ?_
      rw [f3 j hj]
      refine g_callS (d1 := d - 1) (As := [_, _, _]) dX7_isTold_47 sX7_38 (by omega) rfl rfl (Nat.le_of_ble_eq_true rfl) ?_
      refine c_isWithin ?_
      refine g_if_eq 57 dX7_isTold_50 (by decide) (fun c3 => ?_) (fun c3 => ?_)
      · refine g_iconstV (v := 0) dX7_isTold_57 (by decide) ?_
        refine g_zret dX7_isTold_58 rfl rfl ?_
        rw [if_neg c1, if_neg c2, if_pos c3] at k
        exact k
      · refine g_iconstV (v := 1) dX7_isTold_53 (by decide) ?_
        refine g_goto 58 dX7_isTold_54 (by decide) ?_
        refine g_zret dX7_isTold_58 rfl rfl ?_
        rw [if_neg c1, if_neg c2, if_neg c3] at k
        exact k
set_option maxHeartbeats 4000000 in
set_option maxRecDepth 20000 in
theorem c_isToldNo {g : GE} {d : Nat} {w : GW} {Q : Option Value → GW → Prop} {v a b c : Int32} (h : v < 0 ∨ 24 < v) (k : Q (some (.int 0)) w) : gM g d mX7_isTold [.int v, .int a, .int b, .int c] w Q := by
  refine gM.of (by decide) (Nat.le_of_ble_eq_true rfl) ?_
  refine g_iload_n dX7_isTold_0 rfl ?_
  refine g_if_lt 57 dX7_isTold_1 (by decide) (fun c1 => ?_) (fun c1 => ?_)
  · refine g_iconstV (v := 0) dX7_isTold_57 (by decide) ?_
    refine g_zret dX7_isTold_58 rfl rfl ?_
    exact k
  · refine g_iload_n dX7_isTold_4 rfl ?_
    refine g_bipushV (v := 24) dX7_isTold_5 (by decide) ?_
    refine g_icmp_gt 57 dX7_isTold_7 (by decide) (fun c2 => ?_) (fun c2 => ?_)
    · refine g_iconstV (v := 0) dX7_isTold_57 (by decide) ?_
      refine g_zret dX7_isTold_58 rfl rfl ?_
      exact k
    · exact absurd h (by rintro (z | z); exact c1 z; exact c2 z)
set_option maxHeartbeats 4000000 in
set_option maxRecDepth 20000 in
theorem m_areTold {g : GE} {d : Nat} {w : GW} {Q : Option Value → GW → Prop} (hd : 2 ≤ d) {v a b c : Int32} (k1 : ∀ j : Nat, j < 25 → v = nI j → Q (some (.int (fT j a b c))) w) (k2 : v.toInt < 0 ∨ 24 < v.toInt → Q (some (.int 0)) w) : gM g d mX10_areTold [.int v, .int a, .int b, .int c] w Q := by
  refine gM.of (by decide) (Nat.le_of_ble_eq_true rfl) ?_
  refine g_iload_n dX10_areTold_0 rfl ?_
  refine g_tsw dX10_areTold_1 [116, 116, 118, 116, 126, 116, 116, 134, 116, 134, 116, 142, 171, 178, 198, 178, 203, 203, 230, 254, 259, 259, 289, 289, 254] 319 (by decide) (by decide) (by decide) (by decide) (by decide) ?_ (fun c1 => ?_)
  · simp only [tswK]
    refine ⟨fun c1 => ?_, fun c1 => ?_, fun c1 => ?_, fun c1 => ?_, fun c1 => ?_, fun c1 => ?_, fun c1 => ?_, fun c1 => ?_, fun c1 => ?_, fun c1 => ?_, fun c1 => ?_, fun c1 => ?_, fun c1 => ?_, fun c1 => ?_, fun c1 => ?_, fun c1 => ?_, fun c1 => ?_, fun c1 => ?_, fun c1 => ?_, fun c1 => ?_, fun c1 => ?_, fun c1 => ?_, fun c1 => ?_, fun c1 => ?_, fun c1 => ?_, trivial⟩
    · replace c1 := c1.trans (by decide : _ = (0 : Int32))
      refine g_iconstV (v := 1) dX10_areTold_116 (by decide) ?_
      refine g_zret dX10_areTold_117 rfl rfl ?_
      subst c1
      have k3 := k1 0 (by decide) rfl
      rw [fT_0] at k3
      exact k3
    · replace c1 := c1.trans (by decide : _ = (1 : Int32))
      refine g_iconstV (v := 1) dX10_areTold_116 (by decide) ?_
      refine g_zret dX10_areTold_117 rfl rfl ?_
      subst c1
      have k3 := k1 1 (by decide) rfl
      rw [fT_1] at k3
      exact k3
    · replace c1 := c1.trans (by decide : _ = (2 : Int32))
      refine g_iload_n dX10_areTold_118 rfl ?_
      refine g_iconstV (v := 1) dX10_areTold_119 (by decide) ?_
      refine g_bipushV (v := 11) dX10_areTold_120 (by decide) ?_
      refine g_callS (d1 := d - 1) (As := [_, _, _]) dX10_areTold_122 sX10_100 (by omega) rfl rfl (Nat.le_of_ble_eq_true rfl) ?_
      refine m_isIn ?_
      refine g_zret dX10_areTold_125 rfl (zb_of (fIn_01 _ _ _)) ?_
      subst c1
      have k3 := k1 2 (by decide) rfl
      rw [fT_2] at k3
      exact k3
    · replace c1 := c1.trans (by decide : _ = (3 : Int32))
      refine g_iconstV (v := 1) dX10_areTold_116 (by decide) ?_
      refine g_zret dX10_areTold_117 rfl rfl ?_
      subst c1
      have k3 := k1 3 (by decide) rfl
      rw [fT_3] at k3
      exact k3
    · replace c1 := c1.trans (by decide : _ = (4 : Int32))
      refine g_iload_n dX10_areTold_126 rfl ?_
      refine g_iconstV (v := 0) dX10_areTold_127 (by decide) ?_
      refine g_bipushV (v := 6) dX10_areTold_128 (by decide) ?_
      refine g_callS (d1 := d - 1) (As := [_, _, _]) dX10_areTold_130 sX10_100 (by omega) rfl rfl (Nat.le_of_ble_eq_true rfl) ?_
      refine m_isIn ?_
      refine g_zret dX10_areTold_133 rfl (zb_of (fIn_01 _ _ _)) ?_
      subst c1
      have k3 := k1 4 (by decide) rfl
      rw [fT_4] at k3
      exact k3
    · replace c1 := c1.trans (by decide : _ = (5 : Int32))
      refine g_iconstV (v := 1) dX10_areTold_116 (by decide) ?_
      refine g_zret dX10_areTold_117 rfl rfl ?_
      subst c1
      have k3 := k1 5 (by decide) rfl
      rw [fT_5] at k3
      exact k3
    · replace c1 := c1.trans (by decide : _ = (6 : Int32))
      refine g_iconstV (v := 1) dX10_areTold_116 (by decide) ?_
      refine g_zret dX10_areTold_117 rfl rfl ?_
      subst c1
      have k3 := k1 6 (by decide) rfl
      rw [fT_6] at k3
      exact k3
    · replace c1 := c1.trans (by decide : _ = (7 : Int32))
      refine g_iload_n dX10_areTold_134 rfl ?_
      refine g_iconstV (v := 0) dX10_areTold_135 (by decide) ?_
      refine g_bipushV (v := 99) dX10_areTold_136 (by decide) ?_
      refine g_callS (d1 := d - 1) (As := [_, _, _]) dX10_areTold_138 sX10_100 (by omega) rfl rfl (Nat.le_of_ble_eq_true rfl) ?_
      refine m_isIn ?_
      refine g_zret dX10_areTold_141 rfl (zb_of (fIn_01 _ _ _)) ?_
      subst c1
      have k3 := k1 7 (by decide) rfl
      rw [fT_7] at k3
      exact k3
    · replace c1 := c1.trans (by decide : _ = (8 : Int32))
      refine g_iconstV (v := 1) dX10_areTold_116 (by decide) ?_
      refine g_zret dX10_areTold_117 rfl rfl ?_
      subst c1
      have k3 := k1 8 (by decide) rfl
      rw [fT_8] at k3
      exact k3
    · replace c1 := c1.trans (by decide : _ = (9 : Int32))
      refine g_iload_n dX10_areTold_134 rfl ?_
      refine g_iconstV (v := 0) dX10_areTold_135 (by decide) ?_
      refine g_bipushV (v := 99) dX10_areTold_136 (by decide) ?_
      refine g_callS (d1 := d - 1) (As := [_, _, _]) dX10_areTold_138 sX10_100 (by omega) rfl rfl (Nat.le_of_ble_eq_true rfl) ?_
      refine m_isIn ?_
      refine g_zret dX10_areTold_141 rfl (zb_of (fIn_01 _ _ _)) ?_
      subst c1
      have k3 := k1 9 (by decide) rfl
      rw [fT_9] at k3
      exact k3
    · replace c1 := c1.trans (by decide : _ = (10 : Int32))
      refine g_iconstV (v := 1) dX10_areTold_116 (by decide) ?_
      refine g_zret dX10_areTold_117 rfl rfl ?_
      subst c1
      have k3 := k1 10 (by decide) rfl
      rw [fT_10] at k3
      exact k3
    · replace c1 := c1.trans (by decide : _ = (11 : Int32))
      refine g_iload_n dX10_areTold_142 rfl ?_
      refine g_callS (d1 := d - 1) (As := [_]) dX10_areTold_143 sX10_107 (by omega) rfl rfl (Nat.le_of_ble_eq_true rfl) ?_
      refine m_isDial (by omega) ?_
      refine g_if_eq 169 dX10_areTold_146 (by decide) (fun c2 => ?_) (fun c2 => ?_)
      · refine g_iconstV (v := 0) dX10_areTold_169 (by decide) ?_
        refine g_zret dX10_areTold_170 rfl rfl ?_
        subst c1
        have k3 := k1 11 (by decide) rfl
        rw [fT_11] at k3
        rw [if_pos c2] at k3
        exact k3
      · refine g_iload_n dX10_areTold_149 rfl ?_
        refine g_iconstV (v := 0) dX10_areTold_150 (by decide) ?_
        refine g_iconstV (v := 3) dX10_areTold_151 (by decide) ?_
        refine g_callS (d1 := d - 1) (As := [_, _, _]) dX10_areTold_152 sX10_100 (by omega) rfl rfl (Nat.le_of_ble_eq_true rfl) ?_
        refine m_isIn ?_
        refine g_if_eq 169 dX10_areTold_155 (by decide) (fun c3 => ?_) (fun c3 => ?_)
        · refine g_iconstV (v := 0) dX10_areTold_169 (by decide) ?_
          refine g_zret dX10_areTold_170 rfl rfl ?_
          subst c1
          have k3 := k1 11 (by decide) rfl
          rw [fT_11] at k3
          rw [if_neg c2, if_pos c3] at k3
          exact k3
        · refine g_iload_n dX10_areTold_158 rfl ?_
          refine g_callS (d1 := d - 1) (As := [_]) dX10_areTold_159 sX10_107 (by omega) rfl rfl (Nat.le_of_ble_eq_true rfl) ?_
          refine m_isDial (by omega) ?_
          refine g_if_eq 169 dX10_areTold_162 (by decide) (fun c4 => ?_) (fun c4 => ?_)
          · refine g_iconstV (v := 0) dX10_areTold_169 (by decide) ?_
            refine g_zret dX10_areTold_170 rfl rfl ?_
            subst c1
            have k3 := k1 11 (by decide) rfl
            rw [fT_11] at k3
            rw [if_neg c2, if_neg c3, if_pos c4] at k3
            exact k3
          · refine g_iconstV (v := 1) dX10_areTold_165 (by decide) ?_
            refine g_goto 170 dX10_areTold_166 (by decide) ?_
            refine g_zret dX10_areTold_170 rfl rfl ?_
            subst c1
            have k3 := k1 11 (by decide) rfl
            rw [fT_11] at k3
            rw [if_neg c2, if_neg c3, if_neg c4] at k3
            exact k3
    · replace c1 := c1.trans (by decide : _ = (12 : Int32))
      refine g_iload_n dX10_areTold_171 rfl ?_
      refine g_iconstV (v := 0) dX10_areTold_172 (by decide) ?_
      refine g_iconstV (v := 3) dX10_areTold_173 (by decide) ?_
      refine g_callS (d1 := d - 1) (As := [_, _, _]) dX10_areTold_174 sX10_100 (by omega) rfl rfl (Nat.le_of_ble_eq_true rfl) ?_
      refine m_isIn ?_
      refine g_zret dX10_areTold_177 rfl (zb_of (fIn_01 _ _ _)) ?_
      subst c1
      have k3 := k1 12 (by decide) rfl
      rw [fT_12] at k3
      exact k3
    · replace c1 := c1.trans (by decide : _ = (13 : Int32))
      refine g_iload_n dX10_areTold_178 rfl ?_
      refine g_callS (d1 := d - 1) (As := [_]) dX10_areTold_179 sX10_111 (by omega) rfl rfl (Nat.le_of_ble_eq_true rfl) ?_
      refine m_isRow (by omega) ?_
      refine g_if_eq 196 dX10_areTold_182 (by decide) (fun c5 => ?_) (fun c5 => ?_)
      · refine g_iconstV (v := 0) dX10_areTold_196 (by decide) ?_
        refine g_zret dX10_areTold_197 rfl rfl ?_
        subst c1
        have k3 := k1 13 (by decide) rfl
        rw [fT_13] at k3
        rw [if_pos c5] at k3
        exact k3
      · refine g_iload_n dX10_areTold_185 rfl ?_
        refine g_callS (d1 := d - 1) (As := [_]) dX10_areTold_186 sX10_107 (by omega) rfl rfl (Nat.le_of_ble_eq_true rfl) ?_
        refine m_isDial (by omega) ?_
        refine g_if_eq 196 dX10_areTold_189 (by decide) (fun c6 => ?_) (fun c6 => ?_)
        · refine g_iconstV (v := 0) dX10_areTold_196 (by decide) ?_
          refine g_zret dX10_areTold_197 rfl rfl ?_
          subst c1
          have k3 := k1 13 (by decide) rfl
          rw [fT_13] at k3
          rw [if_neg c5, if_pos c6] at k3
          exact k3
        · refine g_iconstV (v := 1) dX10_areTold_192 (by decide) ?_
          refine g_goto 197 dX10_areTold_193 (by decide) ?_
          refine g_zret dX10_areTold_197 rfl rfl ?_
          subst c1
          have k3 := k1 13 (by decide) rfl
          rw [fT_13] at k3
          rw [if_neg c5, if_neg c6] at k3
          exact k3
    · replace c1 := c1.trans (by decide : _ = (14 : Int32))
      refine g_iload_n dX10_areTold_198 rfl ?_
      refine g_callS (d1 := d - 1) (As := [_]) dX10_areTold_199 sX10_111 (by omega) rfl rfl (Nat.le_of_ble_eq_true rfl) ?_
      refine m_isRow (by omega) ?_
      refine g_zret dX10_areTold_202 rfl (zb_of (fIn_01 _ _ _)) ?_
      subst c1
      have k3 := k1 14 (by decide) rfl
      rw [fT_14] at k3
      exact k3
    · replace c1 := c1.trans (by decide : _ = (15 : Int32))
      refine g_iload_n dX10_areTold_178 rfl ?_
      refine g_callS (d1 := d - 1) (As := [_]) dX10_areTold_179 sX10_111 (by omega) rfl rfl (Nat.le_of_ble_eq_true rfl) ?_
      refine m_isRow (by omega) ?_
      refine g_if_eq 196 dX10_areTold_182 (by decide) (fun c7 => ?_) (fun c7 => ?_)
      · refine g_iconstV (v := 0) dX10_areTold_196 (by decide) ?_
        refine g_zret dX10_areTold_197 rfl rfl ?_
        subst c1
        have k3 := k1 15 (by decide) rfl
        rw [fT_15] at k3
        rw [if_pos c7] at k3
        exact k3
      · refine g_iload_n dX10_areTold_185 rfl ?_
        refine g_callS (d1 := d - 1) (As := [_]) dX10_areTold_186 sX10_107 (by omega) rfl rfl (Nat.le_of_ble_eq_true rfl) ?_
        refine m_isDial (by omega) ?_
        refine g_if_eq 196 dX10_areTold_189 (by decide) (fun c8 => ?_) (fun c8 => ?_)
        · refine g_iconstV (v := 0) dX10_areTold_196 (by decide) ?_
          refine g_zret dX10_areTold_197 rfl rfl ?_
          subst c1
          have k3 := k1 15 (by decide) rfl
          rw [fT_15] at k3
          rw [if_neg c7, if_pos c8] at k3
          exact k3
        · refine g_iconstV (v := 1) dX10_areTold_192 (by decide) ?_
          refine g_goto 197 dX10_areTold_193 (by decide) ?_
          refine g_zret dX10_areTold_197 rfl rfl ?_
          subst c1
          have k3 := k1 15 (by decide) rfl
          rw [fT_15] at k3
          rw [if_neg c7, if_neg c8] at k3
          exact k3
    · replace c1 := c1.trans (by decide : _ = (16 : Int32))
      refine g_iload_n dX10_areTold_203 rfl ?_
      refine g_callS (d1 := d - 1) (As := [_]) dX10_areTold_204 sX10_111 (by omega) rfl rfl (Nat.le_of_ble_eq_true rfl) ?_
      refine m_isRow (by omega) ?_
      refine g_if_eq 228 dX10_areTold_207 (by decide) (fun c9 => ?_) (fun c9 => ?_)
      · refine g_iconstV (v := 0) dX10_areTold_228 (by decide) ?_
        refine g_zret dX10_areTold_229 rfl rfl ?_
        subst c1
        have k3 := k1 16 (by decide) rfl
        rw [fT_16] at k3
        rw [if_pos c9] at k3
        exact k3
      · refine g_iload_n dX10_areTold_210 rfl ?_
        refine g_callS (d1 := d - 1) (As := [_]) dX10_areTold_211 sX10_107 (by omega) rfl rfl (Nat.le_of_ble_eq_true rfl) ?_
        refine m_isDial (by omega) ?_
        refine g_if_eq 228 dX10_areTold_214 (by decide) (fun c10 => ?_) (fun c10 => ?_)
        · refine g_iconstV (v := 0) dX10_areTold_228 (by decide) ?_
          refine g_zret dX10_areTold_229 rfl rfl ?_
          subst c1
          have k3 := k1 16 (by decide) rfl
          rw [fT_16] at k3
          rw [if_neg c9, if_pos c10] at k3
          exact k3
        · refine g_iload_n dX10_areTold_217 rfl ?_
          refine g_callS (d1 := d - 1) (As := [_]) dX10_areTold_218 sX10_107 (by omega) rfl rfl (Nat.le_of_ble_eq_true rfl) ?_
          refine m_isDial (by omega) ?_
          refine g_if_eq 228 dX10_areTold_221 (by decide) (fun c11 => ?_) (fun c11 => ?_)
          · refine g_iconstV (v := 0) dX10_areTold_228 (by decide) ?_
            refine g_zret dX10_areTold_229 rfl rfl ?_
            subst c1
            have k3 := k1 16 (by decide) rfl
            rw [fT_16] at k3
            rw [if_neg c9, if_neg c10, if_pos c11] at k3
            exact k3
          · refine g_iconstV (v := 1) dX10_areTold_224 (by decide) ?_
            refine g_goto 229 dX10_areTold_225 (by decide) ?_
            refine g_zret dX10_areTold_229 rfl rfl ?_
            subst c1
            have k3 := k1 16 (by decide) rfl
            rw [fT_16] at k3
            rw [if_neg c9, if_neg c10, if_neg c11] at k3
            exact k3
    · replace c1 := c1.trans (by decide : _ = (17 : Int32))
      refine g_iload_n dX10_areTold_203 rfl ?_
      refine g_callS (d1 := d - 1) (As := [_]) dX10_areTold_204 sX10_111 (by omega) rfl rfl (Nat.le_of_ble_eq_true rfl) ?_
      refine m_isRow (by omega) ?_
      refine g_if_eq 228 dX10_areTold_207 (by decide) (fun c12 => ?_) (fun c12 => ?_)
      · refine g_iconstV (v := 0) dX10_areTold_228 (by decide) ?_
        refine g_zret dX10_areTold_229 rfl rfl ?_
        subst c1
        have k3 := k1 17 (by decide) rfl
        rw [fT_17] at k3
        rw [if_pos c12] at k3
        exact k3
      · refine g_iload_n dX10_areTold_210 rfl ?_
        refine g_callS (d1 := d - 1) (As := [_]) dX10_areTold_211 sX10_107 (by omega) rfl rfl (Nat.le_of_ble_eq_true rfl) ?_
        refine m_isDial (by omega) ?_
        refine g_if_eq 228 dX10_areTold_214 (by decide) (fun c13 => ?_) (fun c13 => ?_)
        · refine g_iconstV (v := 0) dX10_areTold_228 (by decide) ?_
          refine g_zret dX10_areTold_229 rfl rfl ?_
          subst c1
          have k3 := k1 17 (by decide) rfl
          rw [fT_17] at k3
          rw [if_neg c12, if_pos c13] at k3
          exact k3
        · refine g_iload_n dX10_areTold_217 rfl ?_
          refine g_callS (d1 := d - 1) (As := [_]) dX10_areTold_218 sX10_107 (by omega) rfl rfl (Nat.le_of_ble_eq_true rfl) ?_
          refine m_isDial (by omega) ?_
          refine g_if_eq 228 dX10_areTold_221 (by decide) (fun c14 => ?_) (fun c14 => ?_)
          · refine g_iconstV (v := 0) dX10_areTold_228 (by decide) ?_
            refine g_zret dX10_areTold_229 rfl rfl ?_
            subst c1
            have k3 := k1 17 (by decide) rfl
            rw [fT_17] at k3
            rw [if_neg c12, if_neg c13, if_pos c14] at k3
            exact k3
          · refine g_iconstV (v := 1) dX10_areTold_224 (by decide) ?_
            refine g_goto 229 dX10_areTold_225 (by decide) ?_
            refine g_zret dX10_areTold_229 rfl rfl ?_
            subst c1
            have k3 := k1 17 (by decide) rfl
            rw [fT_17] at k3
            rw [if_neg c12, if_neg c13, if_neg c14] at k3
            exact k3
    · replace c1 := c1.trans (by decide : _ = (18 : Int32))
      refine g_iload_n dX10_areTold_230 rfl ?_
      refine g_bipushV (v := 16) dX10_areTold_231 (by decide) ?_
      refine g_bipushV (v := 17) dX10_areTold_233 (by decide) ?_
      refine g_callS (d1 := d - 1) (As := [_, _, _]) dX10_areTold_235 sX10_100 (by omega) rfl rfl (Nat.le_of_ble_eq_true rfl) ?_
      refine m_isIn ?_
      refine g_if_eq 252 dX10_areTold_238 (by decide) (fun c15 => ?_) (fun c15 => ?_)
      · refine g_iconstV (v := 0) dX10_areTold_252 (by decide) ?_
        refine g_zret dX10_areTold_253 rfl rfl ?_
        subst c1
        have k3 := k1 18 (by decide) rfl
        rw [fT_18] at k3
        rw [if_pos c15] at k3
        exact k3
      · refine g_iload_n dX10_areTold_241 rfl ?_
        refine g_callS (d1 := d - 1) (As := [_]) dX10_areTold_242 sX10_107 (by omega) rfl rfl (Nat.le_of_ble_eq_true rfl) ?_
        refine m_isDial (by omega) ?_
        refine g_if_eq 252 dX10_areTold_245 (by decide) (fun c16 => ?_) (fun c16 => ?_)
        · refine g_iconstV (v := 0) dX10_areTold_252 (by decide) ?_
          refine g_zret dX10_areTold_253 rfl rfl ?_
          subst c1
          have k3 := k1 18 (by decide) rfl
          rw [fT_18] at k3
          rw [if_neg c15, if_pos c16] at k3
          exact k3
        · refine g_iconstV (v := 1) dX10_areTold_248 (by decide) ?_
          refine g_goto 253 dX10_areTold_249 (by decide) ?_
          refine g_zret dX10_areTold_253 rfl rfl ?_
          subst c1
          have k3 := k1 18 (by decide) rfl
          rw [fT_18] at k3
          rw [if_neg c15, if_neg c16] at k3
          exact k3
    · replace c1 := c1.trans (by decide : _ = (19 : Int32))
      refine g_iload_n dX10_areTold_254 rfl ?_
      refine g_callS (d1 := d - 1) (As := [_]) dX10_areTold_255 sX10_107 (by omega) rfl rfl (Nat.le_of_ble_eq_true rfl) ?_
      refine m_isDial (by omega) ?_
      refine g_zret dX10_areTold_258 rfl (zb_of (fIn_01 _ _ _)) ?_
      subst c1
      have k3 := k1 19 (by decide) rfl
      rw [fT_19] at k3
      exact k3
    · replace c1 := c1.trans (by decide : _ = (20 : Int32))
      refine g_iload_n dX10_areTold_259 rfl ?_
      refine g_iconstV (v := 0) dX10_areTold_260 (by decide) ?_
      refine g_bipushV (v := 13) dX10_areTold_261 (by decide) ?_
      refine g_callS (d1 := d - 1) (As := [_, _, _]) dX10_areTold_263 sX10_100 (by omega) rfl rfl (Nat.le_of_ble_eq_true rfl) ?_
      refine m_isIn ?_
      refine g_if_eq 287 dX10_areTold_266 (by decide) (fun c17 => ?_) (fun c17 => ?_)
      · refine g_iconstV (v := 0) dX10_areTold_287 (by decide) ?_
        refine g_zret dX10_areTold_288 rfl rfl ?_
        subst c1
        have k3 := k1 20 (by decide) rfl
        rw [fT_20] at k3
        rw [if_pos c17] at k3
        exact k3
      · refine g_iload_n dX10_areTold_269 rfl ?_
        refine g_callS (d1 := d - 1) (As := [_]) dX10_areTold_270 sX10_107 (by omega) rfl rfl (Nat.le_of_ble_eq_true rfl) ?_
        refine m_isDial (by omega) ?_
        refine g_if_eq 287 dX10_areTold_273 (by decide) (fun c18 => ?_) (fun c18 => ?_)
        · refine g_iconstV (v := 0) dX10_areTold_287 (by decide) ?_
          refine g_zret dX10_areTold_288 rfl rfl ?_
          subst c1
          have k3 := k1 20 (by decide) rfl
          rw [fT_20] at k3
          rw [if_neg c17, if_pos c18] at k3
          exact k3
        · refine g_iload_n dX10_areTold_276 rfl ?_
          refine g_callS (d1 := d - 1) (As := [_]) dX10_areTold_277 sX10_107 (by omega) rfl rfl (Nat.le_of_ble_eq_true rfl) ?_
          refine m_isDial (by omega) ?_
          refine g_if_eq 287 dX10_areTold_280 (by decide) (fun c19 => ?_) (fun c19 => ?_)
          · refine g_iconstV (v := 0) dX10_areTold_287 (by decide) ?_
            refine g_zret dX10_areTold_288 rfl rfl ?_
            subst c1
            have k3 := k1 20 (by decide) rfl
            rw [fT_20] at k3
            rw [if_neg c17, if_neg c18, if_pos c19] at k3
            exact k3
          · refine g_iconstV (v := 1) dX10_areTold_283 (by decide) ?_
            refine g_goto 288 dX10_areTold_284 (by decide) ?_
            refine g_zret dX10_areTold_288 rfl rfl ?_
            subst c1
            have k3 := k1 20 (by decide) rfl
            rw [fT_20] at k3
            rw [if_neg c17, if_neg c18, if_neg c19] at k3
            exact k3
    · replace c1 := c1.trans (by decide : _ = (21 : Int32))
      refine g_iload_n dX10_areTold_259 rfl ?_
      refine g_iconstV (v := 0) dX10_areTold_260 (by decide) ?_
      refine g_bipushV (v := 13) dX10_areTold_261 (by decide) ?_
      refine g_callS (d1 := d - 1) (As := [_, _, _]) dX10_areTold_263 sX10_100 (by omega) rfl rfl (Nat.le_of_ble_eq_true rfl) ?_
      refine m_isIn ?_
      refine g_if_eq 287 dX10_areTold_266 (by decide) (fun c20 => ?_) (fun c20 => ?_)
      · refine g_iconstV (v := 0) dX10_areTold_287 (by decide) ?_
        refine g_zret dX10_areTold_288 rfl rfl ?_
        subst c1
        have k3 := k1 21 (by decide) rfl
        rw [fT_21] at k3
        rw [if_pos c20] at k3
        exact k3
      · refine g_iload_n dX10_areTold_269 rfl ?_
        refine g_callS (d1 := d - 1) (As := [_]) dX10_areTold_270 sX10_107 (by omega) rfl rfl (Nat.le_of_ble_eq_true rfl) ?_
        refine m_isDial (by omega) ?_
        refine g_if_eq 287 dX10_areTold_273 (by decide) (fun c21 => ?_) (fun c21 => ?_)
        · refine g_iconstV (v := 0) dX10_areTold_287 (by decide) ?_
          refine g_zret dX10_areTold_288 rfl rfl ?_
          subst c1
          have k3 := k1 21 (by decide) rfl
          rw [fT_21] at k3
          rw [if_neg c20, if_pos c21] at k3
          exact k3
        · refine g_iload_n dX10_areTold_276 rfl ?_
          refine g_callS (d1 := d - 1) (As := [_]) dX10_areTold_277 sX10_107 (by omega) rfl rfl (Nat.le_of_ble_eq_true rfl) ?_
          refine m_isDial (by omega) ?_
          refine g_if_eq 287 dX10_areTold_280 (by decide) (fun c22 => ?_) (fun c22 => ?_)
          · refine g_iconstV (v := 0) dX10_areTold_287 (by decide) ?_
            refine g_zret dX10_areTold_288 rfl rfl ?_
            subst c1
            have k3 := k1 21 (by decide) rfl
            rw [fT_21] at k3
            rw [if_neg c20, if_neg c21, if_pos c22] at k3
            exact k3
          · refine g_iconstV (v := 1) dX10_areTold_283 (by decide) ?_
            refine g_goto 288 dX10_areTold_284 (by decide) ?_
            refine g_zret dX10_areTold_288 rfl rfl ?_
            subst c1
            have k3 := k1 21 (by decide) rfl
            rw [fT_21] at k3
            rw [if_neg c20, if_neg c21, if_neg c22] at k3
            exact k3
    · replace c1 := c1.trans (by decide : _ = (22 : Int32))
      refine g_iload_n dX10_areTold_289 rfl ?_
      refine g_iconstV (v := 0) dX10_areTold_290 (by decide) ?_
      refine g_bipushV (v := 7) dX10_areTold_291 (by decide) ?_
      refine g_callS (d1 := d - 1) (As := [_, _, _]) dX10_areTold_293 sX10_100 (by omega) rfl rfl (Nat.le_of_ble_eq_true rfl) ?_
      refine m_isIn ?_
      refine g_if_eq 317 dX10_areTold_296 (by decide) (fun c23 => ?_) (fun c23 => ?_)
      · refine g_iconstV (v := 0) dX10_areTold_317 (by decide) ?_
        refine g_zret dX10_areTold_318 rfl rfl ?_
        subst c1
        have k3 := k1 22 (by decide) rfl
        rw [fT_22] at k3
        rw [if_pos c23] at k3
        exact k3
      · refine g_iload_n dX10_areTold_299 rfl ?_
        refine g_callS (d1 := d - 1) (As := [_]) dX10_areTold_300 sX10_107 (by omega) rfl rfl (Nat.le_of_ble_eq_true rfl) ?_
        refine m_isDial (by omega) ?_
        refine g_if_eq 317 dX10_areTold_303 (by decide) (fun c24 => ?_) (fun c24 => ?_)
        · refine g_iconstV (v := 0) dX10_areTold_317 (by decide) ?_
          refine g_zret dX10_areTold_318 rfl rfl ?_
          subst c1
          have k3 := k1 22 (by decide) rfl
          rw [fT_22] at k3
          rw [if_neg c23, if_pos c24] at k3
          exact k3
        · refine g_iload_n dX10_areTold_306 rfl ?_
          refine g_callS (d1 := d - 1) (As := [_]) dX10_areTold_307 sX10_107 (by omega) rfl rfl (Nat.le_of_ble_eq_true rfl) ?_
          refine m_isDial (by omega) ?_
          refine g_if_eq 317 dX10_areTold_310 (by decide) (fun c25 => ?_) (fun c25 => ?_)
          · refine g_iconstV (v := 0) dX10_areTold_317 (by decide) ?_
            refine g_zret dX10_areTold_318 rfl rfl ?_
            subst c1
            have k3 := k1 22 (by decide) rfl
            rw [fT_22] at k3
            rw [if_neg c23, if_neg c24, if_pos c25] at k3
            exact k3
          · refine g_iconstV (v := 1) dX10_areTold_313 (by decide) ?_
            refine g_goto 318 dX10_areTold_314 (by decide) ?_
            refine g_zret dX10_areTold_318 rfl rfl ?_
            subst c1
            have k3 := k1 22 (by decide) rfl
            rw [fT_22] at k3
            rw [if_neg c23, if_neg c24, if_neg c25] at k3
            exact k3
    · replace c1 := c1.trans (by decide : _ = (23 : Int32))
      refine g_iload_n dX10_areTold_289 rfl ?_
      refine g_iconstV (v := 0) dX10_areTold_290 (by decide) ?_
      refine g_bipushV (v := 7) dX10_areTold_291 (by decide) ?_
      refine g_callS (d1 := d - 1) (As := [_, _, _]) dX10_areTold_293 sX10_100 (by omega) rfl rfl (Nat.le_of_ble_eq_true rfl) ?_
      refine m_isIn ?_
      refine g_if_eq 317 dX10_areTold_296 (by decide) (fun c26 => ?_) (fun c26 => ?_)
      · refine g_iconstV (v := 0) dX10_areTold_317 (by decide) ?_
        refine g_zret dX10_areTold_318 rfl rfl ?_
        subst c1
        have k3 := k1 23 (by decide) rfl
        rw [fT_23] at k3
        rw [if_pos c26] at k3
        exact k3
      · refine g_iload_n dX10_areTold_299 rfl ?_
        refine g_callS (d1 := d - 1) (As := [_]) dX10_areTold_300 sX10_107 (by omega) rfl rfl (Nat.le_of_ble_eq_true rfl) ?_
        refine m_isDial (by omega) ?_
        refine g_if_eq 317 dX10_areTold_303 (by decide) (fun c27 => ?_) (fun c27 => ?_)
        · refine g_iconstV (v := 0) dX10_areTold_317 (by decide) ?_
          refine g_zret dX10_areTold_318 rfl rfl ?_
          subst c1
          have k3 := k1 23 (by decide) rfl
          rw [fT_23] at k3
          rw [if_neg c26, if_pos c27] at k3
          exact k3
        · refine g_iload_n dX10_areTold_306 rfl ?_
          refine g_callS (d1 := d - 1) (As := [_]) dX10_areTold_307 sX10_107 (by omega) rfl rfl (Nat.le_of_ble_eq_true rfl) ?_
          refine m_isDial (by omega) ?_
          refine g_if_eq 317 dX10_areTold_310 (by decide) (fun c28 => ?_) (fun c28 => ?_)
          · refine g_iconstV (v := 0) dX10_areTold_317 (by decide) ?_
            refine g_zret dX10_areTold_318 rfl rfl ?_
            subst c1
            have k3 := k1 23 (by decide) rfl
            rw [fT_23] at k3
            rw [if_neg c26, if_neg c27, if_pos c28] at k3
            exact k3
          · refine g_iconstV (v := 1) dX10_areTold_313 (by decide) ?_
            refine g_goto 318 dX10_areTold_314 (by decide) ?_
            refine g_zret dX10_areTold_318 rfl rfl ?_
            subst c1
            have k3 := k1 23 (by decide) rfl
            rw [fT_23] at k3
            rw [if_neg c26, if_neg c27, if_neg c28] at k3
            exact k3
    · replace c1 := c1.trans (by decide : _ = (24 : Int32))
      refine g_iload_n dX10_areTold_254 rfl ?_
      refine g_callS (d1 := d - 1) (As := [_]) dX10_areTold_255 sX10_107 (by omega) rfl rfl (Nat.le_of_ble_eq_true rfl) ?_
      refine m_isDial (by omega) ?_
      refine g_zret dX10_areTold_258 rfl (zb_of (fIn_01 _ _ _)) ?_
      subst c1
      have k3 := k1 24 (by decide) rfl
      rw [fT_24] at k3
      exact k3
  · have c1n0 := tsw_ne c1 0 (by decide)
    have c1n1 := tsw_ne c1 1 (by decide)
    have c1n2 := tsw_ne c1 2 (by decide)
    have c1n3 := tsw_ne c1 3 (by decide)
    have c1n4 := tsw_ne c1 4 (by decide)
    have c1n5 := tsw_ne c1 5 (by decide)
    have c1n6 := tsw_ne c1 6 (by decide)
    have c1n7 := tsw_ne c1 7 (by decide)
    have c1n8 := tsw_ne c1 8 (by decide)
    have c1n9 := tsw_ne c1 9 (by decide)
    have c1n10 := tsw_ne c1 10 (by decide)
    have c1n11 := tsw_ne c1 11 (by decide)
    have c1n12 := tsw_ne c1 12 (by decide)
    have c1n13 := tsw_ne c1 13 (by decide)
    have c1n14 := tsw_ne c1 14 (by decide)
    have c1n15 := tsw_ne c1 15 (by decide)
    have c1n16 := tsw_ne c1 16 (by decide)
    have c1n17 := tsw_ne c1 17 (by decide)
    have c1n18 := tsw_ne c1 18 (by decide)
    have c1n19 := tsw_ne c1 19 (by decide)
    have c1n20 := tsw_ne c1 20 (by decide)
    have c1n21 := tsw_ne c1 21 (by decide)
    have c1n22 := tsw_ne c1 22 (by decide)
    have c1n23 := tsw_ne c1 23 (by decide)
    have c1n24 := tsw_ne c1 24 (by decide)
    refine g_iconstV (v := 0) dX10_areTold_319 (by decide) ?_
    refine g_zret dX10_areTold_320 rfl rfl ?_
    exact k2 c1
