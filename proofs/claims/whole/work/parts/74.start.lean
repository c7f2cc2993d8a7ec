/-! ===== what holds once both are made ===== -/
theorem vZ_N : gN vZ = 99 := by decide +kernel
theorem vZ_U : gU vZ ≤ 100000 := by decide +kernel
set_option maxRecDepth 20000 in
theorem vZ_K : ∀ i, i < 99 → kTab[i]? = some (gK vZ i) := by decide +kernel
set_option maxRecDepth 20000 in
theorem vZ_L : ∀ i, i < 99 → 10 ≤ kTab.getD i 0 → lTab[i]? = some (gL vZ i) := by decide +kernel
set_option maxRecDepth 20000 in
theorem vZ_R : ∀ e ∈ rTab, gR vZ e.1 e.2.1 = some e.2.2 := by decide +kernel
set_option maxRecDepth 20000 in
theorem vZ_P : ∀ e ∈ pTab, gP vZ e.1 e.2.1 = some e.2.2 := by decide +kernel
set_option maxRecDepth 20000 in
theorem vZ_I : ∀ e ∈ iTab, gI vZ e.1 e.2.1 = e.2.2 := by decide +kernel
theorem lTab_len9 : lTab.length = 99 := by decide +kernel
theorem SK_made {g : GE} {w : GW} (hS : Sh g w vZ) : SK g w := by
  obtain ⟨h1, h2, h3, h4, h5, h6, h7, h8, h9⟩ := hS
  refine ⟨by rw [h1, vZ_N]; omega, fun i k hi => ?_, fun i n hi hk => ?_, fun e he => ?_, fun e he => ?_, fun e he => ?_⟩
  · have hl : i < 99 := by rw [← kTab_len]; exact (List.getElem?_eq_some_iff.mp hi).1
    rw [h3]
    exact Option.some.inj ((vZ_K i hl).symm.trans hi)
  · have hl : i < 99 := by rw [← lTab_len9]; exact (List.getElem?_eq_some_iff.mp hi).1
    rw [h4]
    exact Option.some.inj ((vZ_L i hl hk).symm.trans hi)
  · rw [h6, vZ_R e he]; rfl
  · rw [h9, vZ_P e he]; rfl
  · rw [h5, vZ_I e he]
/-- the model's part of a world, read off -/
def mRd (g : GE) (w : GW) : MW := (fun f => gI w (576 + f) (eB g + 70), fun j i => gA w (eB g + (71 + j)) i, fun j i => gD w (eB g + (71 + j)) i)
theorem MP_rd (g : GE) (w : GW) : MP g (mRd g w) w := ⟨fun _ _ => rfl, fun _ _ _ => rfl, fun _ _ _ => rfl⟩
theorem rdI {g : GE} {w v : GW} (h : Sh g w v) (f : Nat) : mI (mRd g w) f = gI v (576 + f) 70 := h.2.2.2.2.1 _ _
theorem rdA {g : GE} {w v : GW} (h : Sh g w v) (j i : Nat) : mA (mRd g w) j i = gA v (71 + j) i := h.2.2.2.2.2.2.1 _ _
theorem rdD {g : GE} {w v : GW} (h : Sh g w v) (j i : Nat) : mD (mRd g w) j i = gD v (71 + j) i := h.2.2.2.2.2.2.2.1 _ _
theorem shI {g : GE} {w v : GW} (h : Sh g w v) (c i : Nat) : gI w c (eB g + i) = gI v c i := h.2.2.2.2.1 _ _
theorem shR {g : GE} {w v : GW} (h : Sh g w v) (c i : Nat) : gR w c (eB g + i) = (gR v c i).map (fun q => eB g + q) := h.2.2.2.2.2.1 _ _
theorem shD {g : GE} {w v : GW} (h : Sh g w v) (i j : Nat) : gD w (eB g + i) j = gD v i j := h.2.2.2.2.2.2.2.1 _ _
set_option maxRecDepth 20000 in
theorem vZ_rt : ∀ r, r < 4 → gI vZ 323 (if r = 0 then 2 else 3 + 2 * r) = 0 ∧ gI vZ 324 (if r = 0 then 2 else 3 + 2 * r) = 0 ∧ gR vZ 322 (if r = 0 then 2 else 3 + 2 * r) = none ∧ gA vZ (71 + 6) r = 0 ∧ gA vZ (71 + 7) r = 0 := by decide +kernel
set_option maxRecDepth 20000 in
theorem vZ_dl : ∀ j, j < 8 → gD vZ 67 j = 0 ∧ gD vZ (71 + 11) j = 0 := by decide +kernel
set_option maxRecDepth 20000 in
theorem vZ_rw : ∀ r, r < 18 → gI vZ 387 (12 + 3 * r) = -1 ∧ gA vZ (71 + 12) r = 0 := by decide +kernel
set_option maxRecDepth 20000 in
theorem vZ_ab : ∀ j, j < 12 → gA vZ (71 + 27) j = aTab j := by decide +kernel
set_option maxRecDepth 20000 in
theorem vZ_cn : gI vZ 257 68 = 0 ∧ gI vZ (576 + 38) 70 = 0 ∧ gI vZ 5 1 = 0 ∧ gI vZ 6 1 = 0 ∧ gI vZ 7 1 = 0 ∧ gI vZ (576 + 34) 70 = 0 ∧ gI vZ (576 + 35) 70 = 0 ∧ gI vZ (576 + 36) 70 = 0 ∧ gR vZ 8 1 = none ∧ gI vZ (576 + 23) 70 = -1 ∧ gR vZ 4 1 = some 2 ∧ gI vZ (576 + 11) 70 = 0 := by decide +kernel
def pg0 : PG := (fun _ _ => none, fun _ _ => 0, fun _ _ => 0)
theorem INV_made {g : GE} {w : GW} (hS : Sh g w vZ) : INV g pg0 (fun _ => 0) w (mRd g w) := by
  obtain ⟨c1, c2, c3, c4, c5, c6, c7, c8, c9, c10, c11, c12⟩ := vZ_cn
  refine ⟨SK_made hS, fun r hr => ⟨0, [], ⟨⟨by omega, ?_, ?_, ?_, fun i hi => absurd hi (Nat.not_lt_zero _), fun i j hi => absurd hi (Nat.not_lt_zero _), fun i hi => absurd hi (Nat.not_lt_zero _)⟩, fun i hi => absurd hi (Nat.not_lt_zero _), ?_, ?_, fun k hk => absurd hk (Nat.not_lt_zero _), ⟨6, false, false, 0, 0, ⟨rfl, rfl, rfl, rfl⟩, rfl⟩⟩⟩, ⟨fun j hj => ?_, fun r hr => Or.inl ⟨?_, ?_⟩, ⟨0, Nat.zero_le _, ?_, ?_, fun i hi => absurd hi (Nat.not_lt_zero _)⟩⟩, ⟨?_, ?_, ?_, Or.inl ⟨?_, ?_⟩⟩, fun j hj => ?_, 0, by omega, ?_, ?_⟩
  · unfold aRt; rw [shI hS, (vZ_rt r hr).1]; rfl
  · rw [rdA hS, (vZ_rt r hr).2.2.2.1]; rfl
  · unfold aRt; rw [shI hS, (vZ_rt r hr).2.1, rdA hS, (vZ_rt r hr).2.2.2.2]
  · rw [rdA hS, (vZ_rt r hr).2.2.2.2]; rfl
  · unfold aRt; rw [shR hS, (vZ_rt r hr).2.2.1]; rfl
  · rw [shD hS, rdD hS, (vZ_dl j hj).1, (vZ_dl j hj).2]
    exact ⟨rfl, dOK_0⟩
  · unfold aRow; rw [shI hS, (vZ_rw r hr).1]
  · rw [rdA hS, (vZ_rw r hr).2]
  · rw [shI hS, c1]; rfl
  · rw [rdI hS, c2]; rfl
  · rw [shI hS, c3, rdI hS, c6]
  · rw [shI hS, c4, rdI hS, c7]
  · rw [shI hS, c5, rdI hS, c8]
  · rw [shR hS, c9]; rfl
  · rw [rdI hS, c10]
  · rw [rdA hS, vZ_ab j hj]
  · rw [shR hS, c11]; rfl
  · rw [rdI hS, c12]; rfl
set_option maxHeartbeats 4000000 in
set_option maxRecDepth 20000 in
/-- the law from its entry -/
theorem law_start {g : GE} {d : Nat} {w : GW} {Q : Option Value → GW → Prop} (hd : 205 ≤ d) (hG : GT g) (hlen : eOL g 5 ≤ 2560) (hS : Sh g w vS0) (K : ∀ W, gN W ≤ eB g + 400000 → gU W ≤ 3000000 → Q (some (.int 1)) W) : gF g d mL_law 0 [(0, .ref (eO g 5))] [] w Q := by
  refine s_new 8 1 0 hS dL_law_0 nL_7 rfl (by decide +kernel) ?_
  intro w hS
  refine g_dup dL_law_3 rfl ?_
  refine g_callI (d1 := d - 1) (As := []) dL_law_4 iL_9 (by omega) rfl rfl (Nat.le_of_ble_eq_true rfl) ?_
  refine c_initTop (by omega) hS ?_
  intro w hS
  refine g_astore_n (lz := [(1, .ref (eB g + 0)), (0, .ref (eO g 5))]) dL_law_7 (by decide) rfl ?_
  refine s_new 9 40 70 hS dL_law_8 nL_10 rfl (by decide +kernel) ?_
  intro w hS
  refine g_dup dL_law_11 rfl ?_
  refine g_callI (d1 := d - 1) (As := []) dL_law_12 iL_12 (by omega) rfl rfl (Nat.le_of_ble_eq_true rfl) ?_
  refine c_initModel (by omega) hS ?_
  intro w hS
  refine g_astore_n (lz := [(2, .ref (eB g + 70)), (1, .ref (eB g + 0)), (0, .ref (eO g 5))]) dL_law_15 (by decide) rfl ?_
  refine g_iconstV (v := 0) dL_law_16 (by decide) ?_
  refine g_istore_n (lz := [(3, .int 0), (2, .ref (eB g + 70)), (1, .ref (eB g + 0)), (0, .ref (eO g 5))]) dL_law_17 (by decide) rfl ?_
  have hS : Sh g w vZ := hS
  have h1 := hS.1
  have h2 := hS.2.1
  have h3 := vZ_N
  have h4 := vZ_U
  have hp := put_self (MP_rd g w)
  rw [← hp]
  exact law_loop (by omega) hG hlen 512 0 pg0 (fun _ => 0) w (mRd g w) _ ⟨by omega, by omega⟩ (INV_made hS) (fun W z1 z2 => K W (by omega) (by omega)) rfl rfl rfl rfl
