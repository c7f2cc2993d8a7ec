/-! ===== worlds by offsets from eB g: v stands for w ===== -/
def Sh (g : GE) (w v : GW) : Prop := gN w = eB g + gN v ∧ gU w = gU v ∧ (∀ i, gK w (eB g + i) = gK v i) ∧ (∀ i, gL w (eB g + i) = gL v i) ∧ (∀ c i, gI w c (eB g + i) = gI v c i) ∧ (∀ c i, gR w c (eB g + i) = (gR v c i).map (fun q => eB g + q)) ∧ (∀ i j, gA w (eB g + i) j = gA v i j) ∧ (∀ i j, gD w (eB g + i) j = gD v i j) ∧ ∀ i j, gP w (eB g + i) j = (gP v i j).map (fun q => eB g + q)
theorem eB_inj {b i j : Nat} : b + i = b + j ↔ i = j := by omega
theorem up_sh {α : Type} {f f' : Nat → α} {b n : Nat} {x : α} (h : ∀ i, f (b + i) = f' i) (i : Nat) : va_up f (b + n) x (b + i) = va_up f' n x i := by
  by_cases e : i = n
  · subst e; rw [va_up_self, va_up_self]
  · rw [va_up_ne _ _ (by omega), va_up_ne _ _ e]; exact h i
theorem Sh.newO {g : GE} {w v : GW} (h : Sh g w v) (ci N : Nat) : Sh g (newO w ci N) (newO v ci N) := by
  obtain ⟨h1, h2, h3, h4, h5, h6, h7, h8, h9⟩ := h
  refine ⟨?_, ?_, fun i => ?_, h4, fun c i => ?_, fun c i => ?_, h7, h8, h9⟩
  · rw [gN_newO, gN_newO, h1]; omega
  · rw [gU_newO, gU_newO, h2]
  · rw [gK_newO, gK_newO, h1]; exact up_sh h3 i
  · rw [gI_newO, gI_newO, h1]
    unfold nul2
    by_cases e : i = gN v
    · subst e; rw [if_pos rfl, if_pos rfl]
    · rw [if_neg (by omega), if_neg e]; exact h5 c i
  · rw [gR_newO, gR_newO, h1]
    unfold nul2
    by_cases e : i = gN v
    · subst e; rw [if_pos rfl, if_pos rfl]; rfl
    · rw [if_neg (by omega), if_neg e]; exact h6 c i
theorem Sh.newA {g : GE} {w v : GW} (h : Sh g w v) (kd L : Nat) : Sh g (newA w kd L) (newA v kd L) := by
  obtain ⟨h1, h2, h3, h4, h5, h6, h7, h8, h9⟩ := h
  refine ⟨?_, ?_, fun i => ?_, fun i => ?_, h5, h6, fun i j => ?_, fun i j => ?_, fun i j => ?_⟩
  · rw [gN_newA, gN_newA, h1]; omega
  · rw [gU_newA, gU_newA, h2]
  · rw [gK_newA, gK_newA, h1]; exact up_sh h3 i
  · rw [gL_newA, gL_newA, h1]; exact up_sh h4 i
  · rw [gA_newA, gA_newA, h1]
    unfold nul1
    by_cases e : i = gN v
    · subst e; rw [if_pos rfl, if_pos rfl]
    · rw [if_neg (by omega), if_neg e]; exact h7 i j
  · rw [gD_newA, gD_newA, h1]
    unfold nul1
    by_cases e : i = gN v
    · subst e; rw [if_pos rfl, if_pos rfl]
    · rw [if_neg (by omega), if_neg e]; exact h8 i j
  · rw [gP_newA, gP_newA, h1]
    unfold nul1
    by_cases e : i = gN v
    · subst e; rw [if_pos rfl, if_pos rfl]; rfl
    · rw [if_neg (by omega), if_neg e]; exact h9 i j
theorem Sh.setI {g : GE} {w v : GW} (h : Sh g w v) (c a : Nat) (x : Int32) : Sh g (setI w c (eB g + a) x) (setI v c a x) := by
  obtain ⟨h1, h2, h3, h4, h5, h6, h7, h8, h9⟩ := h
  refine ⟨h1, h2, h3, h4, fun c' i => ?_, h6, h7, h8, h9⟩
  rw [gI_setI, gI_setI]
  by_cases e : c' = c ∧ i = a
  · obtain ⟨rfl, rfl⟩ := e; rw [up2_at, up2_at]
  · rw [up2_ne _ _ (by omega), up2_ne _ _ e]; exact h5 c' i
theorem Sh.setR {g : GE} {w v : GW} (h : Sh g w v) (c a b : Nat) : Sh g (setR w c (eB g + a) (some (eB g + b))) (setR v c a (some b)) := by
  obtain ⟨h1, h2, h3, h4, h5, h6, h7, h8, h9⟩ := h
  refine ⟨h1, h2, h3, h4, h5, fun c' i => ?_, h7, h8, h9⟩
  rw [gR_setR, gR_setR]
  by_cases e : c' = c ∧ i = a
  · obtain ⟨rfl, rfl⟩ := e; rw [up2_at, up2_at]; rfl
  · rw [up2_ne _ _ (by omega), up2_ne _ _ e]; exact h6 c' i
theorem Sh.setA {g : GE} {w v : GW} (h : Sh g w v) (a j : Nat) (x : Int32) : Sh g (setA w (eB g + a) j x) (setA v a j x) := by
  obtain ⟨h1, h2, h3, h4, h5, h6, h7, h8, h9⟩ := h
  refine ⟨h1, h2, h3, h4, h5, h6, fun i j' => ?_, h8, h9⟩
  rw [gA_setA, gA_setA]
  by_cases e : i = a ∧ j' = j
  · obtain ⟨rfl, rfl⟩ := e; rw [up2_at, up2_at]
  · rw [up2_ne _ _ (by omega), up2_ne _ _ e]; exact h7 i j'
theorem Sh.setP {g : GE} {w v : GW} (h : Sh g w v) (a j b : Nat) : Sh g (setP w (eB g + a) j (some (eB g + b))) (setP v a j (some b)) := by
  obtain ⟨h1, h2, h3, h4, h5, h6, h7, h8, h9⟩ := h
  refine ⟨h1, h2, h3, h4, h5, h6, h7, h8, fun i j' => ?_⟩
  rw [gP_setP, gP_setP]
  by_cases e : i = a ∧ j' = j
  · obtain ⟨rfl, rfl⟩ := e; rw [up2_at, up2_at]; rfl
  · rw [up2_ne _ _ (by omega), up2_ne _ _ e]; exact h9 i j'
theorem Sh.ob {g : GE} {w v : GW} (h : Sh g w v) {a k : Nat} (ha : a < gN v) (hk : gK v a = k) : gOb g w (eB g + a) k := ⟨by omega, by rw [h.1]; omega, by rw [h.2.2.1]; exact hk⟩
theorem Sh.len {g : GE} {w v : GW} (h : Sh g w v) {a j : Nat} (ha : j < gL v a) : j < gL w (eB g + a) := by rw [h.2.2.2.1]; exact ha
theorem Sh.rf {g : GE} {w v : GW} (h : Sh g w v) {c a b : Nat} (ha : gR v c a = some b) : gR w c (eB g + a) = some (eB g + b) := by rw [h.2.2.2.2.2.1, ha]; rfl
/-! the rows of a constructor, by offsets -/
section SR
variable {g : GE} {d : Nat} {Y : GM} {pc : Nat} {ls : List (Nat × Value)} {st : List Value} {w v : GW} {Q : Option Value → GW → Prop} {idx : Nat}
theorem s_new (ci N n : Nat) (hS : Sh g w v) (hd : decode Y.2.1 pc = .ok (.new idx, 3)) (hw : gnw Y.1.cls idx ci) (hN : gNF ci = N) (hn : gN v = n) (kk : ∀ W, Sh g W (newO v ci N) → gF g d Y (pc + 3) ls (.ref (eB g + n) :: st) W Q) : gF g d Y pc ls st w Q := by
  refine g_new ci N hd hw hN ?_
  rw [hS.1, hn]
  exact kk _ (hS.newO ci N)
theorem s_newD {i : Int32} (L n : Nat) (hS : Sh g w v) (hd : decode Y.2.1 pc = .ok (.newarray .double, 2)) (hi : i = nI L) (hL : L ≤ 1000000) (hn : gN v = n) (kk : ∀ W, Sh g W (newA v 10 L) → gF g d Y (pc + 2) ls (.ref (eB g + n) :: st) W Q) : gF g d Y pc ls (.int i :: st) w Q := by
  refine g_newD L hd ac_double hi hL ?_
  rw [hS.1, hn]
  exact kk _ (hS.newA 10 L)
theorem s_newI {i : Int32} (L n : Nat) (hS : Sh g w v) (hd : decode Y.2.1 pc = .ok (.newarray .int, 2)) (hi : i = nI L) (hL : L ≤ 1000000) (hn : gN v = n) (kk : ∀ W, Sh g W (newA v 11 L) → gF g d Y (pc + 2) ls (.ref (eB g + n) :: st) W Q) : gF g d Y pc ls (.int i :: st) w Q := by
  refine g_newI L hd ac_int hi hL ?_
  rw [hS.1, hn]
  exact kk _ (hS.newA 11 L)
theorem s_newZ {i : Int32} (L n : Nat) (hS : Sh g w v) (hd : decode Y.2.1 pc = .ok (.newarray .boolean, 2)) (hi : i = nI L) (hL : L ≤ 1000000) (hn : gN v = n) (kk : ∀ W, Sh g W (newA v 12 L) → gF g d Y (pc + 2) ls (.ref (eB g + n) :: st) W Q) : gF g d Y pc ls (.int i :: st) w Q := by
  refine g_newZ L hd ac_boolean hi hL ?_
  rw [hS.1, hn]
  exact kk _ (hS.newA 12 L)
theorem s_anew13 {i : Int32} (L n : Nat) (hS : Sh g w v) (hd : decode Y.2.1 pc = .ok (.anewarray idx, 3)) (hw : Cond.classLink Y.1.cls idx RX5 ∈ gT) (hi : i = nI L) (hL : L ≤ 1000000) (hn : gN v = n) (kk : ∀ W, Sh g W (newA v 13 L) → gF g d Y (pc + 3) ls (.ref (eB g + n) :: st) W Q) : gF g d Y pc ls (.int i :: st) w Q := by
  refine g_anew13 L hd hw hi hL ?_
  rw [hS.1, hn]
  exact kk _ (hS.newA 13 L)
theorem s_anew14 {i : Int32} (L n : Nat) (hS : Sh g w v) (hd : decode Y.2.1 pc = .ok (.anewarray idx, 3)) (hw : Cond.classLink Y.1.cls idx RX6 ∈ gT) (hi : i = nI L) (hL : L ≤ 1000000) (hn : gN v = n) (kk : ∀ W, Sh g W (newA v 14 L) → gF g d Y (pc + 3) ls (.ref (eB g + n) :: st) W Q) : gF g d Y pc ls (.int i :: st) w Q := by
  refine g_anew14 L hd hw hi hL ?_
  rw [hS.1, hn]
  exact kk _ (hS.newA 14 L)
theorem s_anew15 {i : Int32} (L n : Nat) (hS : Sh g w v) (hd : decode Y.2.1 pc = .ok (.anewarray idx, 3)) (hw : Cond.classLink Y.1.cls idx RX7 ∈ gT) (hi : i = nI L) (hL : L ≤ 1000000) (hn : gN v = n) (kk : ∀ W, Sh g W (newA v 15 L) → gF g d Y (pc + 3) ls (.ref (eB g + n) :: st) W Q) : gF g d Y pc ls (.int i :: st) w Q := by
  refine g_anew15 L hd hw hi hL ?_
  rw [hS.1, hn]
  exact kk _ (hS.newA 15 L)
theorem s_putI {x : Int32} (ci k cc a : Nat) (hS : Sh g w v) (hd : decode Y.2.1 pc = .ok (.putfield idx, 3)) (hf : gfl Y.1.cls idx ci k false) (hti : gTI ci k = true) (hcc : 64 * ci + k = cc) (ha : a < gN v ∧ gK v a = ci) (kk : ∀ W, Sh g W (setI v cc a x) → gF g d Y (pc + 3) ls st W Q) : gF g d Y pc ls (.int x :: .ref (eB g + a) :: st) w Q := g_putI ci k cc hd hf hti hcc (hS.ob ha.1 ha.2) (kk _ (hS.setI cc a x))
theorem s_putFI {x : Int32} (ci k cc a : Nat) (hS : Sh g w v) (hd : decode Y.2.1 pc = .ok (.putfield idx, 3)) (hf : gfl Y.1.cls idx ci k true) (hin : Y.1.name = "<init>") (hdecl : Y.1.cls = (vwCl.getD ci ("", TX0, 0)).1) (hti : gTI ci k = true) (hcc : 64 * ci + k = cc) (ha : a < gN v ∧ gK v a = ci) (kk : ∀ W, Sh g W (setI v cc a x) → gF g d Y (pc + 3) ls st W Q) : gF g d Y pc ls (.int x :: .ref (eB g + a) :: st) w Q := g_putFI ci k cc hd hf hin hdecl hti hcc (hS.ob ha.1 ha.2) (kk _ (hS.setI cc a x))
theorem s_putR (ci k cc a b : Nat) (hS : Sh g w v) (hd : decode Y.2.1 pc = .ok (.putfield idx, 3)) (hf : gfl Y.1.cls idx ci k false) (hti : gTI ci k = false) (hnar : narrow (gTy ci k) (.ref (eB g + b)) = .ref (eB g + b)) (hfit : fits (gTy ci k) (.ref (eB g + b)) = true) (hcc : 64 * ci + k = cc) (ha : a < gN v ∧ gK v a = ci) (kk : ∀ W, Sh g W (setR v cc a (some b)) → gF g d Y (pc + 3) ls st W Q) : gF g d Y pc ls (.ref (eB g + b) :: .ref (eB g + a) :: st) w Q := g_putR ci k cc hd hf hti hnar hfit hcc (hS.ob ha.1 ha.2) (kk _ (hS.setR cc a b))
theorem s_putFR (ci k cc a b : Nat) (hS : Sh g w v) (hd : decode Y.2.1 pc = .ok (.putfield idx, 3)) (hf : gfl Y.1.cls idx ci k true) (hin : Y.1.name = "<init>") (hdecl : Y.1.cls = (vwCl.getD ci ("", TX0, 0)).1) (hti : gTI ci k = false) (hnar : narrow (gTy ci k) (.ref (eB g + b)) = .ref (eB g + b)) (hfit : fits (gTy ci k) (.ref (eB g + b)) = true) (hcc : 64 * ci + k = cc) (ha : a < gN v ∧ gK v a = ci) (kk : ∀ W, Sh g W (setR v cc a (some b)) → gF g d Y (pc + 3) ls st W Q) : gF g d Y pc ls (.ref (eB g + b) :: .ref (eB g + a) :: st) w Q := g_putFR ci k cc hd hf hin hdecl hti hnar hfit hcc (hS.ob ha.1 ha.2) (kk _ (hS.setR cc a b))
theorem s_getR (ci k cc a b : Nat) {fin : Bool} (hS : Sh g w v) (hd : decode Y.2.1 pc = .ok (.getfield idx, 3)) (hf : gfl Y.1.cls idx ci k fin) (hti : gTI ci k = false) (hcc : 64 * ci + k = cc) (ha : a < gN v ∧ gK v a = ci ∧ gR v cc a = some b) (kk : gF g d Y (pc + 3) ls (.ref (eB g + b) :: st) w Q) : gF g d Y pc ls (.ref (eB g + a) :: st) w Q := g_getR ci k cc hd hf hti hcc (hS.ob ha.1 ha.2.1) (hS.rf ha.2.2) kk
theorem s_aast13 {i : Int32} (a j b : Nat) (hS : Sh g w v) (hd : decode Y.2.1 pc = .ok (.aastore, 1)) (hi : i = nI j) (ha : a < gN v ∧ gK v a = 13 ∧ j < gL v a ∧ b < gN v ∧ gK v b = 5) (kk : ∀ W, Sh g W (setP v a j (some b)) → gF g d Y (pc + 1) ls st W Q) : gF g d Y pc ls (.ref (eB g + b) :: .int i :: .ref (eB g + a) :: st) w Q := g_aast13 hd (hS.ob ha.1 ha.2.1) hi (hS.len ha.2.2.1) (hS.ob ha.2.2.2.1 ha.2.2.2.2) (kk _ (hS.setP a j b))
theorem s_aast14 {i : Int32} (a j b : Nat) (hS : Sh g w v) (hd : decode Y.2.1 pc = .ok (.aastore, 1)) (hi : i = nI j) (ha : a < gN v ∧ gK v a = 14 ∧ j < gL v a ∧ b < gN v ∧ gK v b = 6) (kk : ∀ W, Sh g W (setP v a j (some b)) → gF g d Y (pc + 1) ls st W Q) : gF g d Y pc ls (.ref (eB g + b) :: .int i :: .ref (eB g + a) :: st) w Q := g_aast14 hd (hS.ob ha.1 ha.2.1) hi (hS.len ha.2.2.1) (hS.ob ha.2.2.2.1 ha.2.2.2.2) (kk _ (hS.setP a j b))
theorem s_iast {i x : Int32} (a j : Nat) (hS : Sh g w v) (hd : decode Y.2.1 pc = .ok (.iastore, 1)) (hi : i = nI j) (ha : a < gN v ∧ gK v a = 11 ∧ j < gL v a) (kk : ∀ W, Sh g W (setA v a j x) → gF g d Y (pc + 1) ls st W Q) : gF g d Y pc ls (.int x :: .int i :: .ref (eB g + a) :: st) w Q := g_iast hd (hS.ob ha.1 ha.2.1) hi (hS.len ha.2.2) (kk _ (hS.setA a j x))
end SR
/-! the constructors of the parts, at any offset -/
def vRou (v : GW) (a : Nat) (x : Int32) : GW := setR (newA (setI v 320 a x) 15 40) 321 a (some (gN v))
def vRow (v : GW) (a : Nat) (x : Int32) : GW := setI (setR (newA (setR (newA (setI v 384 a x) 10 16) 385 a (some (gN v))) 12 16) 386 a (some (gN v + 1))) 387 a (-1)
def vDia (v : GW) (a : Nat) : GW := setR (newA v 10 8) 128 a (some (gN v))
def vLog (v : GW) (a : Nat) : GW := setR (newA v 10 800) 256 a (some (gN v))
theorem k_lt {v : GW} {a kd n : Nat} {L : Nat} (h : a < gN v ∧ gK v a = n) : a < gN (newA v kd L) ∧ gK (newA v kd L) a = n := ⟨by rw [gN_newA]; omega, by rw [gK_newA, va_up_ne _ _ (by omega)]; exact h.2⟩
set_option maxHeartbeats 4000000 in
set_option maxRecDepth 20000 in
theorem c_initRou {g : GE} {d : Nat} {w v : GW} {Q : Option Value → GW → Prop} {a : Nat} {x : Int32} (hd : 1 ≤ d) (hS : Sh g w v) (ha : a < gN v ∧ gK v a = 5) (k : ∀ W, Sh g W (vRou v a x) → Q none W) : gM g d mX5_init [.ref (eB g + a), .int x] w Q := by
  refine gM.of (by decide) (Nat.le_of_ble_eq_true rfl) ?_
  refine g_aload_n dX5_init_0 rfl ?_
  refine g_objInit dX5_init_1 oX5_1 (by omega) (Nat.le_of_ble_eq_true rfl) ?_
  refine g_aload_n dX5_init_4 rfl ?_
  refine g_iload_n dX5_init_5 rfl ?_
  refine s_putFI 5 0 320 a hS dX5_init_6 fX5_7 rfl rfl rfl rfl ha ?_
  intro w1 hS1
  refine g_aload_n dX5_init_9 rfl ?_
  refine g_bipushV (v := 40) dX5_init_10 (by decide) ?_
  refine s_anew15 40 (gN v) hS1 dX5_init_12 kX5_13 (by decide) (by decide) rfl ?_
  intro w2 hS2
  refine s_putFR 5 1 321 a (gN v) hS2 dX5_init_15 fX5_15 rfl rfl rfl rfl rfl rfl (k_lt (v := setI v 320 a x) ha) ?_
  intro w3 hS3
  refine g_vret dX5_init_18 rfl ?_
  exact k _ hS3
set_option maxHeartbeats 4000000 in
set_option maxRecDepth 20000 in
theorem c_initRow {g : GE} {d : Nat} {w v : GW} {Q : Option Value → GW → Prop} {a : Nat} {x : Int32} (hd : 1 ≤ d) (hS : Sh g w v) (ha : a < gN v ∧ gK v a = 6) (k : ∀ W, Sh g W (vRow v a x) → Q none W) : gM g d mX6_init [.ref (eB g + a), .int x] w Q := by
  refine gM.of (by decide) (Nat.le_of_ble_eq_true rfl) ?_
  refine g_aload_n dX6_init_0 rfl ?_
  refine g_objInit dX6_init_1 oX6_1 (by omega) (Nat.le_of_ble_eq_true rfl) ?_
  refine g_aload_n dX6_init_4 rfl ?_
  refine g_iload_n dX6_init_5 rfl ?_
  refine s_putFI 6 0 384 a hS dX6_init_6 fX6_7 rfl rfl rfl rfl ha ?_
  intro w1 hS1
  refine g_aload_n dX6_init_9 rfl ?_
  refine g_bipushV (v := 16) dX6_init_10 (by decide) ?_
  refine s_newD 16 (gN v) hS1 dX6_init_12 (by decide) (by decide) rfl ?_
  intro w2 hS2
  have h2 := k_lt (kd := 10) (L := 16) (v := setI v 384 a x) ha
  refine s_putFR 6 1 385 a (gN v) hS2 dX6_init_14 fX6_13 rfl rfl rfl rfl rfl rfl h2 ?_
  intro w3 hS3
  refine g_aload_n dX6_init_17 rfl ?_
  refine g_bipushV (v := 16) dX6_init_18 (by decide) ?_
  refine s_newZ 16 (gN v + 1) hS3 dX6_init_20 (by decide) (by decide) rfl ?_
  intro w4 hS4
  have h4 := k_lt (kd := 12) (L := 16) (v := setR (newA (setI v 384 a x) 10 16) 385 a (some (gN v))) h2
  refine s_putFR 6 2 386 a (gN v + 1) hS4 dX6_init_22 fX6_17 rfl rfl rfl rfl rfl rfl h4 ?_
  intro w5 hS5
  refine g_aload_n dX6_init_25 rfl ?_
  refine g_iconstV (v := -1) dX6_init_26 (by decide) ?_
  refine s_putI 6 3 387 a hS5 dX6_init_27 fX6_21 rfl rfl h4 ?_
  intro w6 hS6
  refine g_vret dX6_init_30 rfl ?_
  exact k _ hS6
set_option maxHeartbeats 4000000 in
set_option maxRecDepth 20000 in
theorem c_initDia {g : GE} {d : Nat} {w v : GW} {Q : Option Value → GW → Prop} {a : Nat} (hd : 1 ≤ d) (hS : Sh g w v) (ha : a < gN v ∧ gK v a = 2) (k : ∀ W, Sh g W (vDia v a) → Q none W) : gM g d mX2_init [.ref (eB g + a)] w Q := by
  refine gM.of (by decide) (Nat.le_of_ble_eq_true rfl) ?_
  refine g_aload_n dX2_init_0 rfl ?_
  refine g_objInit dX2_init_1 oX2_1 (by omega) (Nat.le_of_ble_eq_true rfl) ?_
  refine g_aload_n dX2_init_4 rfl ?_
  refine g_bipushV (v := 8) dX2_init_5 (by decide) ?_
  refine s_newD 8 (gN v) hS dX2_init_7 (by decide) (by decide) rfl ?_
  intro w2 hS2
  refine s_putFR 2 0 128 a (gN v) hS2 dX2_init_9 fX2_9 rfl rfl rfl rfl rfl rfl (k_lt ha) ?_
  intro w3 hS3
  refine g_vret dX2_init_12 rfl ?_
  exact k _ hS3
set_option maxHeartbeats 4000000 in
set_option maxRecDepth 20000 in
theorem c_initLog {g : GE} {d : Nat} {w v : GW} {Q : Option Value → GW → Prop} {a : Nat} (hd : 1 ≤ d) (hS : Sh g w v) (ha : a < gN v ∧ gK v a = 4) (k : ∀ W, Sh g W (vLog v a) → Q none W) : gM g d mX4_init [.ref (eB g + a)] w Q := by
  refine gM.of (by decide) (Nat.le_of_ble_eq_true rfl) ?_
  refine g_aload_n dX4_init_0 rfl ?_
  refine g_objInit dX4_init_1 oX4_3 (by omega) (Nat.le_of_ble_eq_true rfl) ?_
  refine g_aload_n dX4_init_4 rfl ?_
  refine g_sipushV (v := 800) dX4_init_5 (by decide) ?_
  refine s_newD 800 (gN v) hS dX4_init_8 (by decide) (by decide) rfl ?_
  intro w2 hS2
  refine s_putFR 4 0 256 a (gN v) hS2 dX4_init_10 fX4_11 rfl rfl rfl rfl rfl rfl (k_lt ha) ?_
  intro w3 hS3
  refine g_vret dX4_init_13 rfl ?_
  exact k _ hS3
