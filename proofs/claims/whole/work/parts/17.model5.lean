/-- the innermost CAUGHT frame below o is t -/
def topC (σ : MW) (o t : Nat) : Prop := t < o ∧ mA σ 21 t = 4 ∧ ∀ j, t < j → j < o → ¬ mA σ 21 j = 4
set_option maxHeartbeats 4000000 in
set_option maxRecDepth 20000 in
theorem m_wrapTired {g : GE} {d : Nat} {w : GW} {σ : MW} {Q : Option Value → GW → Prop} (hd : 2 ≤ d) (hS : SK g w) {o t p f n : Nat} (ho : mI σ 29 = nI (o + 1)) (ho2 : o < 60) (hT : topC σ (o + 1) t) (hf : mA σ 24 t = nI f) (hf2 : f < 600) (hm : mA σ 20 f = 5) (hn : mI σ 22 = nI n) (hn2 : n < 600) (k : Q none (put g (mFail σ n 10) w)) : gM g d mX10_wrap [.ref (eB g + 70), .int (nI p)] (put g σ w) Q := by
  refine gM.of (by decide) (Nat.le_of_ble_eq_true rfl) ?_
  refine g_aload_n dX10_wrap_0 rfl ?_
  refine g_callV (d1 := d - 1) (As := []) 9 dX10_wrap_1 vX10_221 (by omega) (mg_ob hS) rfl rfl (Nat.le_of_ble_eq_true rfl) ?_
  refine m_caught hS (o := o) ho (by omega) (by have := hT.1; omega) hT.2.1 (fun j h1 h2 => hT.2.2 j h1 (by omega)) ?_
  rw [hf]
  refine g_istore_n dX10_wrap_4 (by decide) rfl ?_
  refine g_aload_n dX10_wrap_5 rfl ?_
  refine mg_getA 21 20 dX10_wrap_6 fX10_72 rfl rt_20 hS ?_
  refine g_iload_n dX10_wrap_9 rfl ?_
  refine mg_iald dX10_wrap_10 (by first | exact rfl | assumption) rfl rfl (by omega) hS ?_
  refine g_iconstV (v := 5) dX10_wrap_11 (by decide) ?_
  refine g_icmp_ne 24 dX10_wrap_12 (by decide) (fun q => absurd (hm) q) (fun _ => ?_)
  refine g_aload_n dX10_wrap_15 rfl ?_
  refine g_bipushV (v := 10) dX10_wrap_16 (by decide) ?_
  refine g_callV (d1 := d - 1) (As := [_]) 9 dX10_wrap_18 vX10_191 (by omega) (mg_ob hS) rfl rfl (Nat.le_of_ble_eq_true rfl) ?_
  refine m_fail (by omega) hS hn hn2 ?_
  refine g_goto 38 dX10_wrap_21 (by decide) ?_
  refine g_vret dX10_wrap_38 rfl ?_
  exact k
def mWrap (σ : MW) (n p f : Nat) : MW := mThrow σ n 11 (nI p) (mA σ 1 p) (nI f) (mA σ 20 f + 1)
set_option maxHeartbeats 4000000 in
set_option maxRecDepth 20000 in
theorem m_wrapOn {g : GE} {d : Nat} {w : GW} {σ : MW} {Q : Option Value → GW → Prop} (hd : 1 ≤ d) (hS : SK g w) {o t p f n : Nat} (ho : mI σ 29 = nI (o + 1)) (ho2 : o < 60) (hT : topC σ (o + 1) t) (hp : p < 160) (hf : mA σ 24 t = nI f) (hf2 : f < n) (hm : ¬ mA σ 20 f = 5) (hn : mI σ 22 = nI n) (hn2 : n < 600) (k : Q none (put g (mWrap σ n p f) w)) : gM g d mX10_wrap [.ref (eB g + 70), .int (nI p)] (put g σ w) Q := by
  refine gM.of (by decide) (Nat.le_of_ble_eq_true rfl) ?_
  refine g_aload_n dX10_wrap_0 rfl ?_
  refine g_callV (d1 := d - 1) (As := []) 9 dX10_wrap_1 vX10_221 (by omega) (mg_ob hS) rfl rfl (Nat.le_of_ble_eq_true rfl) ?_
  refine m_caught hS (o := o) ho (by omega) (by have := hT.1; omega) hT.2.1 (fun j h1 h2 => hT.2.2 j h1 (by omega)) ?_
  rw [hf]
  refine g_istore_n dX10_wrap_4 (by decide) rfl ?_
  refine g_aload_n dX10_wrap_5 rfl ?_
  refine mg_getA 21 20 dX10_wrap_6 fX10_72 rfl rt_20 hS ?_
  refine g_iload_n dX10_wrap_9 rfl ?_
  refine mg_iald dX10_wrap_10 (by first | exact rfl | assumption) rfl rfl (by omega) hS ?_
  refine g_iconstV (v := 5) dX10_wrap_11 (by decide) ?_
  refine g_icmp_ne 24 dX10_wrap_12 (by decide) (fun _ => ?_) (fun q => absurd q (hm))
  refine g_aload_n dX10_wrap_24 rfl ?_
  refine g_bipushV (v := 11) dX10_wrap_25 (by decide) ?_
  refine g_iload_n dX10_wrap_27 rfl ?_
  refine g_aload_n dX10_wrap_28 rfl ?_
  refine mg_getA 1 1 dX10_wrap_29 fX10_13 rfl rt_1 hS ?_
  refine g_iload_n dX10_wrap_32 rfl ?_
  refine mg_iald dX10_wrap_33 (by first | exact rfl | assumption) rfl rfl (by omega) hS ?_
  refine g_iload_n dX10_wrap_34 rfl ?_
  refine g_callV (d1 := d - 1) (As := [_, _, _, _]) 9 dX10_wrap_35 vX10_144 (by omega) (mg_ob hS) rfl rfl (Nat.le_of_ble_eq_true rfl) ?_
  refine m_throwNew hS hn hn2 (Or.inr ⟨f, hf2, rfl, rfl⟩) ?_
  refine g_vret dX10_wrap_38 rfl ?_
  exact k
def mTell (σ : MW) (n f many : Nat) : MW := sI (sD (sI (sD (sI (sD (sI (sD σ 26 n (FP.i2d (mA σ 16 f))) 38 (nI (n + 1))) 26 (n + 1) (FP.i2d (mA σ 17 f))) 38 (nI (n + 2))) 26 (n + 2) (FP.i2d (mWt (mA σ) f 0 many))) 38 (nI (n + 3))) 26 (n + 3) (FP.i2d (mA σ 20 f))) 38 (nI (n + 4))
set_option maxHeartbeats 4000000 in
set_option maxRecDepth 20000 in
theorem m_tell {g : GE} {d : Nat} {w : GW} {σ : MW} {Q : Option Value → GW → Prop} (hd : 2 ≤ d) (hS : SK g w) {o t f n N many p : Nat} (ho : mI σ 29 = nI (o + 1)) (ho2 : o < 60) (hT : topC σ (o + 1) t) (hf : mA σ 24 t = nI f) (hN : N ≤ 600) (hc : mChain (mA σ) N f many) (hm6 : many < 600) (hm : mA σ 20 f = nI many) (hn : mI σ 38 = nI n) (hn2 : n + 4 ≤ 1000) (hp : mI σ 30 = nI p) (k : Q none (put g (sI (mTell σ n f many) 30 (nI (p + 1))) w)) : gM g d mX10_tell [.ref (eB g + 70)] (put g σ w) Q := by
  refine gM.of (by decide) (Nat.le_of_ble_eq_true rfl) ?_
  have hf6 := hc.1
  have e1 : mI σ 30 + 1 = nI (p + 1) := by rw [hp]; exact nI_1 p
  refine g_aload_n dX10_tell_0 rfl ?_
  refine g_callV (d1 := d - 1) (As := []) 9 dX10_tell_1 vX10_221 (by omega) (mg_ob hS) rfl rfl (Nat.le_of_ble_eq_true rfl) ?_
  refine m_caught hS (o := o) ho (by omega) (by have := hT.1; omega) hT.2.1 (fun j h1 h2 => hT.2.2 j h1 (by omega)) ?_
  rw [hf]
  refine g_istore_n dX10_tell_4 (by decide) rfl ?_
  refine g_aload_n dX10_tell_5 rfl ?_
  refine g_aload_n dX10_tell_6 rfl ?_
  refine mg_getA 17 16 dX10_tell_7 fX10_60 rfl rt_16 hS ?_
  refine g_iload_n dX10_tell_10 rfl ?_
  refine mg_iald dX10_tell_11 (by first | exact rfl | assumption) rfl rfl (by omega) hS ?_
  refine g_i2d dX10_tell_12 ?_
  refine g_callV (d1 := d - 1) (As := [_]) 9 dX10_tell_13 vX10_225 (by omega) (mg_ob hS) rfl rfl (Nat.le_of_ble_eq_true rfl) ?_
  refine m_note hS (n := n) hn (by omega) ?_
  refine g_aload_n dX10_tell_16 rfl ?_
  refine g_aload_n dX10_tell_17 rfl ?_
  refine mg_getA 18 17 dX10_tell_18 fX10_63 rfl rt_17 hS ?_
  refine g_iload_n dX10_tell_21 rfl ?_
  refine mg_iald dX10_tell_22 (by first | exact rfl | assumption) rfl rfl (by omega) hS ?_
  refine g_i2d dX10_tell_23 ?_
  refine g_callV (d1 := d - 1) (As := [_]) 9 dX10_tell_24 vX10_225 (by omega) (mg_ob hS) rfl rfl (Nat.le_of_ble_eq_true rfl) ?_
  refine m_note hS (n := n + 1) rfl (by omega) ?_
  refine g_aload_n dX10_tell_27 rfl ?_
  refine g_aload_n dX10_tell_28 rfl ?_
  refine g_iload_n dX10_tell_29 rfl ?_
  refine g_callV (d1 := d - 1) (As := [_]) 9 dX10_tell_30 vX10_229 (by omega) (mg_ob hS) rfl rfl (Nat.le_of_ble_eq_true rfl) ?_
  refine m_weight (σ := sI (sD (sI (sD σ 26 n (FP.i2d (mA σ 16 f))) 38 (nI (n + 1))) 26 (n + 1) (FP.i2d (mA σ 17 f))) 38 (nI (n + 2))) (by omega) hS hN hc hm6 hm ?_
  refine g_i2d dX10_tell_33 ?_
  refine g_callV (d1 := d - 1) (As := [_]) 9 dX10_tell_34 vX10_225 (by omega) (mg_ob hS) rfl rfl (Nat.le_of_ble_eq_true rfl) ?_
  refine m_note hS (n := n + 2) rfl (by omega) ?_
  refine g_aload_n dX10_tell_37 rfl ?_
  refine g_aload_n dX10_tell_38 rfl ?_
  refine mg_getA 21 20 dX10_tell_39 fX10_72 rfl rt_20 hS ?_
  refine g_iload_n dX10_tell_42 rfl ?_
  refine mg_iald dX10_tell_43 (by first | exact rfl | assumption) rfl rfl (by omega) hS ?_
  refine g_i2d dX10_tell_44 ?_
  refine g_callV (d1 := d - 1) (As := [_]) 9 dX10_tell_45 vX10_225 (by omega) (mg_ob hS) rfl rfl (Nat.le_of_ble_eq_true rfl) ?_
  refine m_note hS (n := n + 3) rfl (by omega) ?_
  refine g_aload_n dX10_tell_48 rfl ?_
  refine g_dup dX10_tell_49 rfl ?_
  refine mg_getI 30 dX10_tell_50 fX10_141 rfl (by decide) hS ?_
  refine g_iconstV (v := 1) dX10_tell_53 (by decide) ?_
  refine g_iadd dX10_tell_54 ?_
  refine mg_putI 30 dX10_tell_55 fX10_141 rfl (by decide) hS ?_
  refine g_vret dX10_tell_58 rfl ?_
  exact e1 ▸ k
/-- from part p on the FINALLY or END of its TRY is q, m parts further -/
def mLP (A : Nat → Nat → Int32) : Nat → Nat → Nat → Prop
  | 0, p, q => p = q ∧ p < 160 ∧ (A 0 p = 3 ∨ A 0 p = 0)
  | m + 1, p, q => p < 160 ∧ ¬ A 0 p = 3 ∧ ¬ A 0 p = 0 ∧ ∃ p' : Nat, A 5 p = nI p' ∧ mLP A m p' q
/-- lastPart(): a FINALLY part q begins -/
def mLastOn (σ : MW) (o q : Nat) : MW := sI (sI (sI (sA (sA (sA σ 21 o 5) 25 o (mI σ 31)) 24 o (mI σ 32)) 36 (mI σ 36 + 1)) 30 (nI (q + 1))) 31 0
/-- lastPart(): there is none, it goes on -/
def mLastOff (σ : MW) (o : Nat) (to : Int32) : MW := sI (sI σ 30 to) 29 (nI o)
set_option maxHeartbeats 4000000 in
set_option maxRecDepth 20000 in
theorem m_lastPart_loop {g : GE} {d : Nat} {w : GW} {σ : MW} {Q : Option Value → GW → Prop} (hS : SK g w) {o q : Nat} (K : ∀ ls, ls.lookup 2 = some (.int (nI q)) → ls.lookup 1 = some (.int (nI o)) → ls.lookup 0 = some (.ref (eB g + 70)) → gF g d mX10_lastPart 53 ls [] (put g σ w) Q) : ∀ m i p : Nat, i + m ≤ 4 → mLP (mA σ) m p q → gF g d mX10_lastPart 16 [(3, .int (nI i)), (2, .int (nI p)), (1, .int (nI o)), (0, .ref (eB g + 70))] [] (put g σ w) Q
  | 0, i, p, hi, h => by
    obtain ⟨rfl, hp, h3⟩ := h
    by_cases hi4 : i = 4
    · subst hi4
      refine g_iload_n dX10_lastPart_16 rfl ?_
      refine g_iconstV (v := 4) dX10_lastPart_17 (by decide) ?_
      refine g_icmp_ge 53 dX10_lastPart_18 (by decide) (fun _ => ?_) (fun q => absurd (by decide) q)
      exact K _ rfl rfl rfl
    · have hi4 : ¬ (4 : Int32) ≤ nI i := nI_ge (b := 4) (by omega) (by decide)
      rcases h3 with h3 | h3
      · refine g_iload_n dX10_lastPart_16 rfl ?_
        refine g_iconstV (v := 4) dX10_lastPart_17 (by decide) ?_
        refine g_icmp_ge 53 dX10_lastPart_18 (by decide) (fun q => absurd q (hi4)) (fun _ => ?_)
        refine g_aload_n dX10_lastPart_21 rfl ?_
        refine mg_getA 0 0 dX10_lastPart_22 fX10_7 rfl rt_0 hS ?_
        refine g_iload_n dX10_lastPart_25 rfl ?_
        refine mg_iald dX10_lastPart_26 (by first | exact rfl | assumption) rfl rfl (by omega) hS ?_
        refine g_iconstV (v := 3) dX10_lastPart_27 (by decide) ?_
        refine g_icmp_eq 53 dX10_lastPart_28 (by decide) (fun _ => ?_) (fun q => absurd (h3) q)
        exact K _ rfl rfl rfl
      · refine g_iload_n dX10_lastPart_16 rfl ?_
        refine g_iconstV (v := 4) dX10_lastPart_17 (by decide) ?_
        refine g_icmp_ge 53 dX10_lastPart_18 (by decide) (fun q => absurd q (hi4)) (fun _ => ?_)
        refine g_aload_n dX10_lastPart_21 rfl ?_
        refine mg_getA 0 0 dX10_lastPart_22 fX10_7 rfl rt_0 hS ?_
        refine g_iload_n dX10_lastPart_25 rfl ?_
        refine mg_iald dX10_lastPart_26 (by first | exact rfl | assumption) rfl rfl (by omega) hS ?_
        refine g_iconstV (v := 3) dX10_lastPart_27 (by decide) ?_
        refine g_icmp_eq 53 dX10_lastPart_28 (by decide) (fun q => absurd q (by rw [h3]; decide)) (fun _ => ?_)
        refine g_aload_n dX10_lastPart_31 rfl ?_
        refine mg_getA 0 0 dX10_lastPart_32 fX10_7 rfl rt_0 hS ?_
        refine g_iload_n dX10_lastPart_35 rfl ?_
        refine mg_iald dX10_lastPart_36 (by first | exact rfl | assumption) rfl rfl (by omega) hS ?_
        refine g_if_eq 53 dX10_lastPart_37 (by decide) (fun _ => ?_) (fun q => absurd (h3) q)
        exact K _ rfl rfl rfl
  | m + 1, i, p, hi, h => by
    obtain ⟨hp, h3, h0, p', e', h'⟩ := h
    have hi4 : ¬ (4 : Int32) ≤ nI i := nI_ge (b := 4) (by omega) (by decide)
    refine g_iload_n dX10_lastPart_16 rfl ?_
    refine g_iconstV (v := 4) dX10_lastPart_17 (by decide) ?_
    refine g_icmp_ge 53 dX10_lastPart_18 (by decide) (fun q => absurd q (hi4)) (fun _ => ?_)
    refine g_aload_n dX10_lastPart_21 rfl ?_
    refine mg_getA 0 0 dX10_lastPart_22 fX10_7 rfl rt_0 hS ?_
    refine g_iload_n dX10_lastPart_25 rfl ?_
    refine mg_iald dX10_lastPart_26 (by first | exact rfl | assumption) rfl rfl (by omega) hS ?_
    refine g_iconstV (v := 3) dX10_lastPart_27 (by decide) ?_
    refine g_icmp_eq 53 dX10_lastPart_28 (by decide) (fun q => absurd q (h3)) (fun _ => ?_)
    refine g_aload_n dX10_lastPart_31 rfl ?_
    refine mg_getA 0 0 dX10_lastPart_32 fX10_7 rfl rt_0 hS ?_
    refine g_iload_n dX10_lastPart_35 rfl ?_
    refine mg_iald dX10_lastPart_36 (by first | exact rfl | assumption) rfl rfl (by omega) hS ?_
    refine g_if_eq 53 dX10_lastPart_37 (by decide) (fun q => absurd q (h0)) (fun _ => ?_)
    refine g_aload_n dX10_lastPart_40 rfl ?_
    refine mg_getA 5 5 dX10_lastPart_41 fX10_25 rfl rt_5 hS ?_
    refine g_iload_n dX10_lastPart_44 rfl ?_
    refine mg_iald dX10_lastPart_45 (by first | exact rfl | assumption) rfl rfl (by omega) hS ?_
    rw [e']
    refine g_istore_n (lz := [(2, .int (nI p')), (3, .int (nI i)), (1, .int (nI o)), (0, .ref (eB g + 70))]) dX10_lastPart_46 (by decide) rfl ?_
    refine g_iinc (lz := [(3, .int (nI (i + 1))), (2, .int (nI p')), (1, .int (nI o)), (0, .ref (eB g + 70))]) dX10_lastPart_47 rfl (by decide) (by rw [show nI i + Int32.ofInt 1 = nI (i + 1) from nI_1 i]; rfl) ?_
    refine g_goto 16 dX10_lastPart_50 (by decide) ?_
    exact m_lastPart_loop hS K m (i + 1) p' (by omega) h'
theorem mLP.lt {A : Nat → Nat → Int32} : ∀ {m p q : Nat}, mLP A m p q → q < 160 ∧ p < 160 ∧ (A 0 q = 3 ∨ A 0 q = 0)
  | 0, p, q, h => by obtain ⟨rfl, h1, h2⟩ := h; exact ⟨h1, h1, h2⟩
  | m + 1, p, q, h => by
    obtain ⟨h1, -, -, p', -, h2⟩ := h
    exact ⟨(mLP.lt h2).1, h1, (mLP.lt h2).2.2⟩
set_option maxHeartbeats 4000000 in
set_option maxRecDepth 20000 in
theorem m_lastOn {g : GE} {d : Nat} {w : GW} {σ : MW} {Q : Option Value → GW → Prop} (hS : SK g w) {o p q m : Nat} (ho : mI σ 29 = nI (o + 1)) (ho2 : o < 60) (hp : mA σ 22 o = nI p) (hm : m ≤ 4) (hq : mLP (mA σ) m p q) (hq3 : mA σ 0 q = 3) (k : Q none (put g (mLastOn σ o q) w)) : gM g d mX10_lastPart [.ref (eB g + 70)] (put g σ w) Q := by
  refine gM.of (by decide) (Nat.le_of_ble_eq_true rfl) ?_
  have eo : mI σ 29 - 1 = nI o := by rw [ho]; exact nI_pred o
  have hq2 := hq.lt.1
  have e1 : nI q + 1 = nI (q + 1) := nI_1 q
  refine g_aload_n dX10_lastPart_0 rfl ?_
  refine mg_getI 29 dX10_lastPart_1 fX10_156 rfl (by decide) hS ?_
  refine g_iconstV (v := 1) dX10_lastPart_4 (by decide) ?_
  refine g_isub dX10_lastPart_5 ?_
  rw [eo]
  refine g_istore_n dX10_lastPart_6 (by decide) rfl ?_
  refine g_aload_n dX10_lastPart_7 rfl ?_
  refine mg_getA 25 22 dX10_lastPart_8 fX10_82 rfl rt_22 hS ?_
  refine g_iload_n dX10_lastPart_11 rfl ?_
  refine mg_iald dX10_lastPart_12 (by first | exact rfl | assumption) rfl rfl (by omega) hS ?_
  rw [hp]
  refine g_istore_n dX10_lastPart_13 (by decide) rfl ?_
  refine g_iconstV (v := 0) dX10_lastPart_14 (by decide) ?_
  refine g_istore_n dX10_lastPart_15 (by decide) rfl ?_
  refine m_lastPart_loop hS ?_ m 0 p (by omega) hq
  intro ls h2 h1 h0
  refine g_aload_n dX10_lastPart_53 h0 ?_
  refine mg_getA 0 0 dX10_lastPart_54 fX10_7 rfl rt_0 hS ?_
  refine g_iload_n dX10_lastPart_57 h2 ?_
  refine mg_iald dX10_lastPart_58 (by first | exact rfl | assumption) rfl rfl (by omega) hS ?_
  refine g_iconstV (v := 3) dX10_lastPart_59 (by decide) ?_
  refine g_icmp_ne 115 dX10_lastPart_60 (by decide) (fun q => absurd (hq3) q) (fun _ => ?_)
  refine g_aload_n dX10_lastPart_63 h0 ?_
  refine mg_getA 24 21 dX10_lastPart_64 fX10_79 rfl rt_21 hS ?_
  refine g_iload_n dX10_lastPart_67 h1 ?_
  refine g_iconstV (v := 5) dX10_lastPart_68 (by decide) ?_
  refine mg_iast dX10_lastPart_69 (by first | exact rfl | assumption) rfl rfl (by omega) hS ?_
  refine g_aload_n dX10_lastPart_70 h0 ?_
  refine mg_getA 28 25 dX10_lastPart_71 fX10_91 rfl rt_25 hS ?_
  refine g_iload_n dX10_lastPart_74 h1 ?_
  refine g_aload_n dX10_lastPart_75 h0 ?_
  refine mg_getI 31 dX10_lastPart_76 fX10_138 rfl (by decide) hS ?_
  refine mg_iast dX10_lastPart_79 (by first | exact rfl | assumption) rfl rfl (by omega) hS ?_
  refine g_aload_n dX10_lastPart_80 h0 ?_
  refine mg_getA 27 24 dX10_lastPart_81 fX10_88 rfl rt_24 hS ?_
  refine g_iload_n dX10_lastPart_84 h1 ?_
  refine g_aload_n dX10_lastPart_85 h0 ?_
  refine mg_getI 32 dX10_lastPart_86 fX10_135 rfl (by decide) hS ?_
  refine mg_iast dX10_lastPart_89 (by first | exact rfl | assumption) rfl rfl (by omega) hS ?_
  refine g_aload_n dX10_lastPart_90 h0 ?_
  refine g_dup dX10_lastPart_91 rfl ?_
  refine mg_getI 36 dX10_lastPart_92 fX10_166 rfl (by decide) hS ?_
  refine g_iconstV (v := 1) dX10_lastPart_95 (by decide) ?_
  refine g_iadd dX10_lastPart_96 ?_
  refine mg_putI 36 dX10_lastPart_97 fX10_166 rfl (by decide) hS ?_
  refine g_aload_n dX10_lastPart_100 h0 ?_
  refine g_iload_n dX10_lastPart_101 h2 ?_
  refine g_iconstV (v := 1) dX10_lastPart_102 (by decide) ?_
  refine g_iadd dX10_lastPart_103 ?_
  refine mg_putI 30 dX10_lastPart_104 fX10_141 rfl (by decide) hS ?_
  refine g_aload_n dX10_lastPart_107 h0 ?_
  refine g_iconstV (v := 0) dX10_lastPart_108 (by decide) ?_
  refine mg_putI 31 dX10_lastPart_109 fX10_138 rfl (by decide) hS ?_
  refine g_goto 156 dX10_lastPart_112 (by decide) ?_
  refine g_vret dX10_lastPart_156 rfl ?_
  exact e1 ▸ k
set_option maxHeartbeats 4000000 in
set_option maxRecDepth 20000 in
theorem m_lastOff {g : GE} {d : Nat} {w : GW} {σ : MW} {Q : Option Value → GW → Prop} (hS : SK g w) {o p q m e : Nat} (ho : mI σ 29 = nI (o + 1)) (ho2 : o < 60) (hp : mA σ 22 o = nI p) (hm : m ≤ 4) (hq : mLP (mA σ) m p q) (hq3 : mA σ 0 q = 0) (hw : mI σ 31 = 0) (he : mA σ 4 p = nI e) (k : Q none (put g (mLastOff σ o (nI (e + 1))) w)) : gM g d mX10_lastPart [.ref (eB g + 70)] (put g σ w) Q := by
  refine gM.of (by decide) (Nat.le_of_ble_eq_true rfl) ?_
  have eo : mI σ 29 - 1 = nI o := by rw [ho]; exact nI_pred o
  have hq2 := hq.lt.1
  have hp2 := hq.lt.2.1
  have e1 : mA σ 4 p + 1 = nI (e + 1) := by rw [he]; exact nI_1 e
  refine g_aload_n dX10_lastPart_0 rfl ?_
  refine mg_getI 29 dX10_lastPart_1 fX10_156 rfl (by decide) hS ?_
  refine g_iconstV (v := 1) dX10_lastPart_4 (by decide) ?_
  refine g_isub dX10_lastPart_5 ?_
  rw [eo]
  refine g_istore_n dX10_lastPart_6 (by decide) rfl ?_
  refine g_aload_n dX10_lastPart_7 rfl ?_
  refine mg_getA 25 22 dX10_lastPart_8 fX10_82 rfl rt_22 hS ?_
  refine g_iload_n dX10_lastPart_11 rfl ?_
  refine mg_iald dX10_lastPart_12 (by first | exact rfl | assumption) rfl rfl (by omega) hS ?_
  rw [hp]
  refine g_istore_n dX10_lastPart_13 (by decide) rfl ?_
  refine g_iconstV (v := 0) dX10_lastPart_14 (by decide) ?_
  refine g_istore_n dX10_lastPart_15 (by decide) rfl ?_
  refine m_lastPart_loop hS ?_ m 0 p (by omega) hq
  intro ls h2 h1 h0
  refine g_aload_n dX10_lastPart_53 h0 ?_
  refine mg_getA 0 0 dX10_lastPart_54 fX10_7 rfl rt_0 hS ?_
  refine g_iload_n dX10_lastPart_57 h2 ?_
  refine mg_iald dX10_lastPart_58 (by first | exact rfl | assumption) rfl rfl (by omega) hS ?_
  refine g_iconstV (v := 3) dX10_lastPart_59 (by decide) ?_
  refine g_icmp_ne 115 dX10_lastPart_60 (by decide) (fun _ => ?_) (fun q => absurd q (by rw [hq3]; decide))
  refine g_aload_n dX10_lastPart_115 h0 ?_
  refine g_aload_n dX10_lastPart_116 h0 ?_
  refine mg_getI 31 dX10_lastPart_117 fX10_138 rfl (by decide) hS ?_
  refine g_if_ne 139 dX10_lastPart_120 (by decide) (fun q => absurd (hw) q) (fun _ => ?_)
  refine g_aload_n dX10_lastPart_123 h0 ?_
  refine mg_getA 4 4 dX10_lastPart_124 fX10_22 rfl rt_4 hS ?_
  refine g_aload_n dX10_lastPart_127 h0 ?_
  refine mg_getA 25 22 dX10_lastPart_128 fX10_82 rfl rt_22 hS ?_
  refine g_iload_n dX10_lastPart_131 h1 ?_
  refine mg_iald dX10_lastPart_132 (by first | exact rfl | assumption) rfl rfl (by omega) hS ?_
  refine mg_iald dX10_lastPart_133 hp rfl rfl (by omega) hS ?_
  refine g_iconstV (v := 1) dX10_lastPart_134 (by decide) ?_
  refine g_iadd dX10_lastPart_135 ?_
  rw [e1]
  refine g_goto 143 dX10_lastPart_136 (by decide) ?_
  refine mg_putI 30 dX10_lastPart_143 fX10_141 rfl (by decide) hS ?_
  refine g_aload_n dX10_lastPart_146 h0 ?_
  refine g_dup dX10_lastPart_147 rfl ?_
  refine mg_getI 29 dX10_lastPart_148 fX10_156 rfl (by decide) hS ?_
  refine g_iconstV (v := 1) dX10_lastPart_151 (by decide) ?_
  refine g_isub dX10_lastPart_152 ?_
  rw [show mI (sI σ 30 (nI (e + 1))) 29 - 1 = nI o from eo]
  refine mg_putI 29 dX10_lastPart_153 fX10_156 rfl (by decide) hS ?_
  refine g_vret dX10_lastPart_156 rfl ?_
  exact k
set_option maxHeartbeats 4000000 in
set_option maxRecDepth 20000 in
theorem m_lastWay {g : GE} {d : Nat} {w : GW} {σ : MW} {Q : Option Value → GW → Prop} (hS : SK g w) {o p q m : Nat} (ho : mI σ 29 = nI (o + 1)) (ho2 : o < 60) (hp : mA σ 22 o = nI p) (hm : m ≤ 4) (hq : mLP (mA σ) m p q) (hq3 : mA σ 0 q = 0) (hw : ¬ mI σ 31 = 0) (k : Q none (put g (mLastOff σ o (mI σ 30)) w)) : gM g d mX10_lastPart [.ref (eB g + 70)] (put g σ w) Q := by
  refine gM.of (by decide) (Nat.le_of_ble_eq_true rfl) ?_
  have eo : mI σ 29 - 1 = nI o := by rw [ho]; exact nI_pred o
  have hq2 := hq.lt.1
  have hp2 := hq.lt.2.1
  refine g_aload_n dX10_lastPart_0 rfl ?_
  refine mg_getI 29 dX10_lastPart_1 fX10_156 rfl (by decide) hS ?_
  refine g_iconstV (v := 1) dX10_lastPart_4 (by decide) ?_
  refine g_isub dX10_lastPart_5 ?_
  rw [eo]
  refine g_istore_n dX10_lastPart_6 (by decide) rfl ?_
  refine g_aload_n dX10_lastPart_7 rfl ?_
  refine mg_getA 25 22 dX10_lastPart_8 fX10_82 rfl rt_22 hS ?_
  refine g_iload_n dX10_lastPart_11 rfl ?_
  refine mg_iald dX10_lastPart_12 (by first | exact rfl | assumption) rfl rfl (by omega) hS ?_
  rw [hp]
  refine g_istore_n dX10_lastPart_13 (by decide) rfl ?_
  refine g_iconstV (v := 0) dX10_lastPart_14 (by decide) ?_
  refine g_istore_n dX10_lastPart_15 (by decide) rfl ?_
  refine m_lastPart_loop hS ?_ m 0 p (by omega) hq
  intro ls h2 h1 h0
  refine g_aload_n dX10_lastPart_53 h0 ?_
  refine mg_getA 0 0 dX10_lastPart_54 fX10_7 rfl rt_0 hS ?_
  refine g_iload_n dX10_lastPart_57 h2 ?_
  refine mg_iald dX10_lastPart_58 (by first | exact rfl | assumption) rfl rfl (by omega) hS ?_
  refine g_iconstV (v := 3) dX10_lastPart_59 (by decide) ?_
  refine g_icmp_ne 115 dX10_lastPart_60 (by decide) (fun _ => ?_) (fun q => absurd q (by rw [hq3]; decide))
  refine g_aload_n dX10_lastPart_115 h0 ?_
  refine g_aload_n dX10_lastPart_116 h0 ?_
  refine mg_getI 31 dX10_lastPart_117 fX10_138 rfl (by decide) hS ?_
  refine g_if_ne 139 dX10_lastPart_120 (by decide) (fun _ => ?_) (fun q => absurd q (hw))
  refine g_aload_n dX10_lastPart_139 h0 ?_
  refine mg_getI 30 dX10_lastPart_140 fX10_141 rfl (by decide) hS ?_
  refine mg_putI 30 dX10_lastPart_143 fX10_141 rfl (by decide) hS ?_
  refine g_aload_n dX10_lastPart_146 h0 ?_
  refine g_dup dX10_lastPart_147 rfl ?_
  refine mg_getI 29 dX10_lastPart_148 fX10_156 rfl (by decide) hS ?_
  refine g_iconstV (v := 1) dX10_lastPart_151 (by decide) ?_
  refine g_isub dX10_lastPart_152 ?_
  rw [show mI (sI σ 30 (mI σ 30)) 29 - 1 = nI o from eo]
  refine mg_putI 29 dX10_lastPart_153 fX10_156 rfl (by decide) hS ?_
  refine g_vret dX10_lastPart_156 rfl ?_
  exact k
