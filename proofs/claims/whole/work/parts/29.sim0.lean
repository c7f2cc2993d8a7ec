/-! ===== the run of the model as steps of its loop ===== -/
def mLs (g : GE) (n : Nat) : List (Nat × Value) := [(1, .int (nI n)), (0, .ref (eB g + 70))]
/-- in k rounds of its loop the model comes from σ to σ' -/
def MS (g : GE) (d k : Nat) (σ σ' : MW) : Prop := ∀ (w : GW) (n : Nat) (Q : Option Value → GW → Prop), SK g w → n + k ≤ 900000 → gF g d mX10_run 75 (mLs g (n + k)) [] (put g σ' w) Q → gF g d mX10_run 75 (mLs g n) [] (put g σ w) Q
theorem MS_same {g : GE} {d : Nat} {σ : MW} : MS g d 0 σ σ := fun _ _ _ _ _ h => h
theorem MS.thn {g : GE} {d k1 k2 : Nat} {σ1 σ2 σ3 : MW} (h1 : MS g d k1 σ1 σ2) (h2 : MS g d k2 σ2 σ3) : MS g d (k1 + k2) σ1 σ3 := by
  intro w n Q hS hn h
  refine h1 w n Q hS (by omega) (h2 w (n + k1) Q hS (by omega) ?_)
  rw [show n + k1 + k2 = n + (k1 + k2) by omega]
  exact h
set_option maxHeartbeats 4000000 in
set_option maxRecDepth 20000 in
theorem MS_go {g : GE} {d o : Nat} {σ σ' : MW} (hd : 12 ≤ d) (ho : mI σ 29 = nI (o + 1)) (ho2 : o < 60) (hw : mI σ 31 = 0) (h : ∀ w, SK g w → Ans g (d - 1) mX10_go [.ref (eB g + 70)] (put g σ w) none (put g σ' w)) : MS g d 1 σ σ' := by
  intro w n Q hS hn K
  refine g_iload_n dX10_run_75 rfl ?_
  refine g_ldc dX10_run_76 qX10_214 ?_
  refine g_icmp_ge 112 dX10_run_78 (by decide) (fun q => absurd q (nI_ge (b := 1000000) (by omega) (by decide))) (fun _ => ?_)
  refine g_aload_n dX10_run_81 rfl ?_
  refine mg_getI 29 dX10_run_82 fX10_156 rfl (by decide) hS ?_
  refine g_if_le 112 dX10_run_85 (by decide) (fun q => absurd q (by rw [ho]; exact nI_nle (by omega) (by omega))) (fun _ => ?_)
  refine g_aload_n dX10_run_88 rfl ?_
  refine mg_getI 31 dX10_run_89 fX10_138 rfl (by decide) hS ?_
  refine g_if_ne 102 dX10_run_92 (by decide) (fun q => absurd (hw) q) (fun _ => ?_)
  refine g_aload_n dX10_run_95 rfl ?_
  refine g_callV (d1 := d - 1) (As := []) 9 dX10_run_96 vX10_215 (by omega) (mg_ob hS) rfl rfl (Nat.le_of_ble_eq_true rfl) ?_
  refine h w hS _ ?_
  refine g_goto 106 dX10_run_99 (by decide) ?_
  refine g_iinc (lz := mLs g (n + 1)) dX10_run_106 rfl (by decide) (by rw [show nI n + Int32.ofInt 1 = nI (n + 1) from nI_1 n]; rfl) ?_
  refine g_goto 75 dX10_run_109 (by decide) ?_
  exact K
set_option maxHeartbeats 4000000 in
set_option maxRecDepth 20000 in
theorem MS_leave {g : GE} {d o : Nat} {σ σ' : MW} (hd : 12 ≤ d) (ho : mI σ 29 = nI (o + 1)) (ho2 : o < 60) (hw : ¬ mI σ 31 = 0) (h : ∀ w, SK g w → Ans g (d - 1) mX10_leave [.ref (eB g + 70)] (put g σ w) none (put g σ' w)) : MS g d 1 σ σ' := by
  intro w n Q hS hn K
  refine g_iload_n dX10_run_75 rfl ?_
  refine g_ldc dX10_run_76 qX10_214 ?_
  refine g_icmp_ge 112 dX10_run_78 (by decide) (fun q => absurd q (nI_ge (b := 1000000) (by omega) (by decide))) (fun _ => ?_)
  refine g_aload_n dX10_run_81 rfl ?_
  refine mg_getI 29 dX10_run_82 fX10_156 rfl (by decide) hS ?_
  refine g_if_le 112 dX10_run_85 (by decide) (fun q => absurd q (by rw [ho]; exact nI_nle (by omega) (by omega))) (fun _ => ?_)
  refine g_aload_n dX10_run_88 rfl ?_
  refine mg_getI 31 dX10_run_89 fX10_138 rfl (by decide) hS ?_
  refine g_if_ne 102 dX10_run_92 (by decide) (fun _ => ?_) (fun q => absurd q (hw))
  refine g_aload_n dX10_run_102 rfl ?_
  refine g_callV (d1 := d - 1) (As := []) 9 dX10_run_103 vX10_218 (by omega) (mg_ob hS) rfl rfl (Nat.le_of_ble_eq_true rfl) ?_
  refine h w hS _ ?_
  refine g_iinc (lz := mLs g (n + 1)) dX10_run_106 rfl (by decide) (by rw [show nI n + Int32.ofInt 1 = nI (n + 1) from nI_1 n]; rfl) ?_
  refine g_goto 75 dX10_run_109 (by decide) ?_
  exact K
/-- a call that only hands on -/
theorem Ans_sub {g : GE} {d : Nat} {Y : GM} {as : List Value} {w w1 : GW} {Q : Option Value → GW → Prop} (h : Ans g d Y as w none w1) (hq : Q none w1) : gM g d Y as w (fun r w2 => r = none ∧ Q none w2) := h _ ⟨rfl, hq⟩
/-! ===== the static part of the model's arrays, and what a routine is ===== -/
/-- the int literals of steps -/
def isOpn (v : Int32) : Prop := v = 1 ∨ v = 4 ∨ v = 11
def isPrt (v : Int32) : Prop := v = 0 ∨ v = 2 ∨ v = 3
/-- the arguments of step p are as they are told (what 'areTold' looked at) -/
def argOK (A : Nat → Nat → Int32) (p : Nat) : Prop :=
  (A 0 p = 4 → ∃ a : Nat, a ≤ 6 ∧ A 1 p = nI a) ∧ (A 0 p = 11 → ∃ a c : Nat, a < 8 ∧ c < 8 ∧ A 1 p = nI a ∧ A 3 p = nI c) ∧ (A 0 p = 12 → ∃ a : Nat, a < 4 ∧ A 1 p = nI a) ∧
  ((A 0 p = 13 ∨ A 0 p = 15) → ∃ a b : Nat, a < 18 ∧ b < 8 ∧ A 1 p = nI a ∧ A 2 p = nI b) ∧ (A 0 p = 14 → ∃ a : Nat, a < 18 ∧ A 1 p = nI a) ∧ ((A 0 p = 16 ∨ A 0 p = 17) → ∃ a b c : Nat, a < 18 ∧ b < 8 ∧ c < 8 ∧ A 1 p = nI a ∧ A 2 p = nI b ∧ A 3 p = nI c) ∧ (A 0 p = 18 → ∃ a b : Nat, 16 ≤ a ∧ a < 18 ∧ b < 8 ∧ A 1 p = nI a ∧ A 2 p = nI b) ∧
  ((A 0 p = 19 ∨ A 0 p = 24) → ∃ a : Nat, a < 8 ∧ A 1 p = nI a) ∧ ((A 0 p = 20 ∨ A 0 p = 21) → ∃ h b c : Nat, h < 14 ∧ b < 8 ∧ c < 8 ∧ A 1 p = nI h ∧ A 2 p = nI b ∧ A 3 p = nI c) ∧ ((A 0 p = 22 ∨ A 0 p = 23) → ∃ h b c : Nat, h < 8 ∧ b < 8 ∧ c < 8 ∧ A 1 p = nI h ∧ A 2 p = nI b ∧ A 3 p = nI c) ∧ ∃ v : Nat, v < 25 ∧ A 0 p = nI v
/-- the parts of a TRY from the part that begins at p on (p0: its TRY), up to its END e: those behind have their steps by 'W from to inCatch'; n: CATCH parts that may still come -/
def wfP (A : Nat → Nat → Int32) (W : Nat → Nat → Bool → Prop) (c : Bool) (base : Nat) : Nat → Nat → Nat → Prop
  | 0, p, e => ∃ q : Nat, p < q ∧ A 5 (base + p) = nI (base + q) ∧ W (p + 1) q (c || decide (A 0 (base + p) = 2)) ∧ ((q = e ∧ A 0 (base + q) = 0) ∨ (A 0 (base + q) = 3 ∧ q < e ∧ A 5 (base + q) = nI (base + e) ∧ A 0 (base + e) = 0 ∧ W (q + 1) e c))
  | n + 1, p, e => ∃ q : Nat, p < q ∧ A 5 (base + p) = nI (base + q) ∧ W (p + 1) q (c || decide (A 0 (base + p) = 2)) ∧ ((q = e ∧ A 0 (base + q) = 0) ∨ (A 0 (base + q) = 3 ∧ q < e ∧ A 5 (base + q) = nI (base + e) ∧ A 0 (base + e) = 0 ∧ W (q + 1) e c) ∨ (A 0 (base + q) = 2 ∧ wfP A W c base n q e))
/-- the steps from f up to t of the routine at 'base' are whole: n levels of blocks at most; c: a CATCH part is open around them, l: a LOOP -/
def wfS (A : Nat → Nat → Int32) (base : Nat) : Nat → Bool → Nat → Nat → Nat → Bool → Prop
  | n, l, 0, f, t, c => f = t
  | n, l, k + 1, f, t, c => f = t ∨ (f < t ∧ t ≤ 40 ∧ argOK A (base + f) ∧
      ((¬ isOpn (A 0 (base + f)) ∧ ¬ isPrt (A 0 (base + f)) ∧ (A 0 (base + f) = 5 → l = true) ∧ ((A 0 (base + f) = 8 ∨ A 0 (base + f) = 9 ∨ A 0 (base + f) = 10) → c = true) ∧ wfS A base n l k (f + 1) t c) ∨
       (isOpn (A 0 (base + f)) ∧ ∃ e m : Nat, n = m + 1 ∧ f < e ∧ e < t ∧ A 4 (base + f) = nI (base + e) ∧ wfS A base n l k (e + 1) t c ∧
         ((A 0 (base + f) = 1 ∧ wfP A (fun x y z => wfS A base m l k x y z) c base 3 f e) ∨ (¬ A 0 (base + f) = 1 ∧ A 5 (base + f) = nI (base + e) ∧ A 0 (base + e) = 0 ∧ wfS A base m (l || decide (A 0 (base + f) = 4)) k (f + 1) e c)))))

