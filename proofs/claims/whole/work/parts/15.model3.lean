set_option maxHeartbeats 4000000 in
set_option maxRecDepth 20000 in
theorem m_caught_loop {g : GE} {d : Nat} {w : GW} {σ : MW} {Q : Option Value → GW → Prop} (hS : SK g w) {t : Nat} (ht : mA σ 21 t = 4) (k : Q (some (.int (mA σ 24 t))) (put g σ w)) : ∀ m : Nat, t + m < 60 → (∀ j, t < j → j ≤ t + m → ¬ mA σ 21 j = 4) → gF g d mX10_caught 7 [(1, .int (nI (t + m))), (0, .ref (eB g + 70))] [] (put g σ w) Q
  | 0, hm, _ => by
    refine g_aload_n dX10_caught_7 rfl ?_
    refine mg_getA 24 21 dX10_caught_8 fX10_79 rfl rt_21 hS ?_
    refine g_iload_n dX10_caught_11 rfl ?_
    refine mg_iald dX10_caught_12 (by first | exact rfl | assumption) rfl rfl (by omega) hS ?_
    refine g_iconstV (v := 4) dX10_caught_13 (by decide) ?_
    refine g_icmp_eq 23 dX10_caught_14 (by decide) (fun _ => ?_) (fun q => absurd (ht) q)
    refine g_aload_n dX10_caught_23 rfl ?_
    refine mg_getA 27 24 dX10_caught_24 fX10_88 rfl rt_24 hS ?_
    refine g_iload_n dX10_caught_27 rfl ?_
    refine mg_iald dX10_caught_28 (by first | exact rfl | assumption) rfl rfl (by omega) hS ?_
    refine g_iret dX10_caught_29 rfl ?_
    exact k
  | m + 1, hm, hj => by
    have h1 := hj (t + (m + 1)) (by omega) (by omega)
    refine g_aload_n dX10_caught_7 rfl ?_
    refine mg_getA 24 21 dX10_caught_8 fX10_79 rfl rt_21 hS ?_
    refine g_iload_n dX10_caught_11 rfl ?_
    refine mg_iald dX10_caught_12 (by first | exact rfl | assumption) rfl rfl (by omega) hS ?_
    refine g_iconstV (v := 4) dX10_caught_13 (by decide) ?_
    refine g_icmp_eq 23 dX10_caught_14 (by decide) (fun q => absurd q (h1)) (fun _ => ?_)
    refine g_iinc (lz := [(1, .int (nI (t + m))), (0, .ref (eB g + 70))]) dX10_caught_17 rfl (by decide) (by rw [show nI (t + (m + 1)) + Int32.ofInt (-1) = nI (t + m) from pk_m1 (t + m)]; rfl) ?_
    refine g_goto 7 dX10_caught_20 (by decide) ?_
    exact m_caught_loop hS ht k m (by omega) (fun j h2 h3 => hj j h2 (by omega))
set_option maxHeartbeats 4000000 in
set_option maxRecDepth 20000 in
theorem m_caught {g : GE} {d : Nat} {w : GW} {σ : MW} {Q : Option Value → GW → Prop} (hS : SK g w) {o t : Nat} (ho : mI σ 29 = nI (o + 1)) (ho2 : o < 60) (hto : t ≤ o) (ht : mA σ 21 t = 4) (hj : ∀ j, t < j → j ≤ o → ¬ mA σ 21 j = 4) (k : Q (some (.int (mA σ 24 t))) (put g σ w)) : gM g d mX10_caught [.ref (eB g + 70)] (put g σ w) Q := by
  refine gM.of (by decide) (Nat.le_of_ble_eq_true rfl) ?_
  have eo : mI σ 29 - 1 = nI o := by rw [ho]; exact nI_pred o
  obtain ⟨m, rfl⟩ : ∃ m, o = t + m := ⟨o - t, by omega⟩
  refine g_aload_n dX10_caught_0 rfl ?_
  refine mg_getI 29 dX10_caught_1 fX10_156 rfl (by decide) hS ?_
  refine g_iconstV (v := 1) dX10_caught_4 (by decide) ?_
  refine g_isub dX10_caught_5 ?_
  rw [eo]
  refine g_istore_n dX10_caught_6 (by decide) rfl ?_
  exact m_caught_loop hS ht k m ho2 hj
/-- call(i): routine r begins, behind step i -/
def mCall (σ : MW) (o r p c : Nat) : MW := mBegin (sI σ 33 (nI (c + 1))) o r (nI (p + 1))
set_option maxHeartbeats 4000000 in
set_option maxRecDepth 20000 in
theorem m_callTired {g : GE} {d : Nat} {w : GW} {σ : MW} {Q : Option Value → GW → Prop} (hd : 2 ≤ d) (hS : SK g w) {p r n : Nat} (hp : p < 160) (ha : mA σ 1 p = nI r) (hr : r < 4) (h : 0 < mA σ 7 r ∨ mI σ 33 = nI 4) (hn : mI σ 22 = nI n) (hn2 : n < 600) (k : Q none (put g (mFail σ n 10) w)) : gM g d mX10_call [.ref (eB g + 70), .int (nI p)] (put g σ w) Q := by
  refine gM.of (by decide) (Nat.le_of_ble_eq_true rfl) ?_
  refine g_aload_n dX10_call_0 rfl ?_
  refine mg_getA 7 7 dX10_call_1 fX10_31 rfl rt_7 hS ?_
  refine g_aload_n dX10_call_4 rfl ?_
  refine mg_getA 1 1 dX10_call_5 fX10_13 rfl rt_1 hS ?_
  refine g_iload_n dX10_call_8 rfl ?_
  refine mg_iald dX10_call_9 (by first | exact rfl | assumption) rfl rfl (by omega) hS ?_
  refine mg_iald dX10_call_10 (by first | exact rfl | assumption) rfl rfl (by omega) hS ?_
  refine g_if_gt 22 dX10_call_11 (by decide) (fun c1 => ?_) (fun c1 => ?_)
  · refine g_aload_n dX10_call_22 rfl ?_
    refine g_bipushV (v := 10) dX10_call_23 (by decide) ?_
    refine g_callV (d1 := d - 1) (As := [_]) 9 dX10_call_25 vX10_191 (by omega) (mg_ob hS) rfl rfl (Nat.le_of_ble_eq_true rfl) ?_
    refine m_fail (by omega) hS hn hn2 ?_
    refine g_vret dX10_call_28 rfl ?_
    exact k
  · refine g_aload_n dX10_call_14 rfl ?_
    refine mg_getI 33 dX10_call_15 fX10_163 rfl (by decide) hS ?_
    refine g_iconstV (v := 4) dX10_call_18 (by decide) ?_
    refine g_icmp_ne 29 dX10_call_19 (by decide) (fun c2 => ?_) (fun c2 => ?_)
    · exact absurd (h.resolve_left c1) c2
    · refine g_aload_n dX10_call_22 rfl ?_
      refine g_bipushV (v := 10) dX10_call_23 (by decide) ?_
      refine g_callV (d1 := d - 1) (As := [_]) 9 dX10_call_25 vX10_191 (by omega) (mg_ob hS) rfl rfl (Nat.le_of_ble_eq_true rfl) ?_
      refine m_fail (by omega) hS hn hn2 ?_
      refine g_vret dX10_call_28 rfl ?_
      exact k
set_option maxHeartbeats 4000000 in
set_option maxRecDepth 20000 in
theorem m_callOn {g : GE} {d : Nat} {w : GW} {σ : MW} {Q : Option Value → GW → Prop} (hd : 2 ≤ d) (hS : SK g w) {p r o c : Nat} (hp : p < 160) (ha : mA σ 1 p = nI r) (hr : r < 4) (h1 : mA σ 7 r = 0) (hc : mI σ 33 = nI c) (hc2 : c < 4) (ho : mI σ 29 = nI o) (ho2 : o < 60) (k : Q none (put g (mCall σ o r p c) w)) : gM g d mX10_call [.ref (eB g + 70), .int (nI p)] (put g σ w) Q := by
  refine gM.of (by decide) (Nat.le_of_ble_eq_true rfl) ?_
  have e1 : mI σ 33 + 1 = nI (c + 1) := by rw [hc]; exact nI_1 c
  have e2 : nI p + 1 = nI (p + 1) := nI_1 p
  refine g_aload_n dX10_call_0 rfl ?_
  refine mg_getA 7 7 dX10_call_1 fX10_31 rfl rt_7 hS ?_
  refine g_aload_n dX10_call_4 rfl ?_
  refine mg_getA 1 1 dX10_call_5 fX10_13 rfl rt_1 hS ?_
  refine g_iload_n dX10_call_8 rfl ?_
  refine mg_iald dX10_call_9 (by first | exact rfl | assumption) rfl rfl (by omega) hS ?_
  refine mg_iald dX10_call_10 (by first | exact rfl | assumption) rfl rfl (by omega) hS ?_
  refine g_if_gt 22 dX10_call_11 (by decide) (fun q => absurd q (by rw [h1]; decide)) (fun _ => ?_)
  refine g_aload_n dX10_call_14 rfl ?_
  refine mg_getI 33 dX10_call_15 fX10_163 rfl (by decide) hS ?_
  refine g_iconstV (v := 4) dX10_call_18 (by decide) ?_
  refine g_icmp_ne 29 dX10_call_19 (by decide) (fun _ => ?_) (fun q => absurd q (by rw [hc]; exact fun q => absurd ((nI_eq (b := 4) (by omega) (by decide)).mp q) (by omega)))
  refine g_aload_n dX10_call_29 rfl ?_
  refine g_dup dX10_call_30 rfl ?_
  refine mg_getI 33 dX10_call_31 fX10_163 rfl (by decide) hS ?_
  refine g_iconstV (v := 1) dX10_call_34 (by decide) ?_
  refine g_iadd dX10_call_35 ?_
  rw [e1]
  refine mg_putI 33 dX10_call_36 fX10_163 rfl (by decide) hS ?_
  refine g_aload_n dX10_call_39 rfl ?_
  refine g_aload_n dX10_call_40 rfl ?_
  refine mg_getA 1 1 dX10_call_41 fX10_13 rfl rt_1 hS ?_
  refine g_iload_n dX10_call_44 rfl ?_
  refine mg_iald dX10_call_45 (by first | exact rfl | assumption) rfl rfl (by omega) hS ?_
  refine g_iload_n dX10_call_46 rfl ?_
  refine g_iconstV (v := 1) dX10_call_47 (by decide) ?_
  refine g_iadd dX10_call_48 ?_
  rw [e2, show mA (sI σ 33 (nI (c + 1))) 1 p = nI r from ha]
  refine g_callV (d1 := d - 1) (As := [_, _]) 9 dX10_call_49 vX10_210 (by omega) (mg_ob hS) rfl rfl (Nat.le_of_ble_eq_true rfl) ?_
  refine m_begin (by omega) hS ho ho2 ?_
  refine g_vret dX10_call_52 rfl ?_
  exact k
/-- the fault n earlier ones down from f -/
def mDown (A : Nat → Nat → Int32) : Nat → Nat → Nat
  | f, 0 => f
  | f, n + 1 => (A 19 (mDown A f n)).toNatClampNeg
/-- f has at least n earlier ones, all of them among the first N -/
def mChain (A : Nat → Nat → Int32) (N f n : Nat) : Prop := f < N ∧ ∀ j, j < n → ∃ p : Nat, p < N ∧ A 19 (mDown A f j) = nI p
theorem mChain.lt {A : Nat → Nat → Int32} {N f n : Nat} (h : mChain A N f n) (hN : N ≤ 600) : ∀ j, j ≤ n → mDown A f j < N
  | 0, _ => h.1
  | j + 1, hj => by
    obtain ⟨p, hp, e⟩ := h.2 j (by omega)
    show (A 19 (mDown A f j)).toNatClampNeg < N
    rw [e, nI_clamp (by omega)]
    exact hp
theorem mChain.ix {A : Nat → Nat → Int32} {N f n : Nat} (h : mChain A N f n) (hN : N ≤ 600) {j : Nat} (hj : j < n) : A 19 (mDown A f j) = nI (mDown A f (j + 1)) := by
  obtain ⟨p, hp, e⟩ := h.2 j hj
  show A 19 (mDown A f j) = nI ((A 19 (mDown A f j)).toNatClampNeg)
  rw [e, nI_clamp (by omega)]
/-- the weight, over the n-th earlier one on: what 'weight' sums up from below -/
def mWt (A : Nat → Nat → Int32) (f : Nat) : Nat → Nat → Int32
  | n, 0 => fWeight (A 16 (mDown A f n)) (A 18 (mDown A f n)) 1
  | n, m + 1 => fWeight (A 16 (mDown A f n)) (A 18 (mDown A f n)) (1 + mWt A f (n + 1) m)
set_option maxHeartbeats 4000000 in
set_option maxRecDepth 20000 in
theorem m_below_loop {g : GE} {d : Nat} {w : GW} {σ : MW} {Q : Option Value → GW → Prop} (hS : SK g w) {N f n : Nat} (hN : N ≤ 600) (hc : mChain (mA σ) N f n) (hn6 : n < 600) (k : Q (some (.int (nI (mDown (mA σ) f n)))) (put g σ w)) : ∀ m i : Nat, i + m = n → gF g d mX10_below 5 [(4, .int (nI i)), (3, .int (nI (mDown (mA σ) f i))), (0, .ref (eB g + 70)), (1, .int (nI f)), (2, .int (nI n))] [] (put g σ w) Q
  | 0, i, hi => by
    have e : i = n := by omega
    subst e
    refine g_iload dX10_below_5 rfl ?_
    refine g_iload_n dX10_below_7 rfl ?_
    refine g_icmp_ge 24 dX10_below_8 (by decide) (fun _ => ?_) (fun q => absurd (nI_le (Nat.le_refl _) (by omega)) q)
    refine g_iload_n dX10_below_24 rfl ?_
    refine g_iret dX10_below_25 rfl ?_
    exact k
  | m + 1, i, hi => by
    have hlt := hc.lt hN i (by omega)
    refine g_iload dX10_below_5 rfl ?_
    refine g_iload_n dX10_below_7 rfl ?_
    refine g_icmp_ge 24 dX10_below_8 (by decide) (fun q => absurd q (nI_ge (by omega) (by omega))) (fun _ => ?_)
    refine g_aload_n dX10_below_11 rfl ?_
    refine mg_getA 20 19 dX10_below_12 fX10_69 rfl rt_19 hS ?_
    refine g_iload_n dX10_below_15 rfl ?_
    refine mg_iald dX10_below_16 (by first | exact rfl | assumption) rfl rfl (by omega) hS ?_
    rw [hc.ix hN (show i < n by omega)]
    refine g_istore_n (lz := [(3, .int (nI (mDown (mA σ) f (i + 1)))), (4, .int (nI i)), (0, .ref (eB g + 70)), (1, .int (nI f)), (2, .int (nI n))]) dX10_below_17 (by decide) rfl ?_
    refine g_iinc (lz := [(4, .int (nI (i + 1))), (3, .int (nI (mDown (mA σ) f (i + 1)))), (0, .ref (eB g + 70)), (1, .int (nI f)), (2, .int (nI n))]) dX10_below_18 rfl (by decide) (by rw [show nI i + Int32.ofInt 1 = nI (i + 1) from nI_1 i]; rfl) ?_
    refine g_goto 5 dX10_below_21 (by decide) ?_
    exact m_below_loop hS hN hc hn6 k m (i + 1) (by omega)
set_option maxHeartbeats 4000000 in
set_option maxRecDepth 20000 in
theorem m_below {g : GE} {d : Nat} {w : GW} {σ : MW} {Q : Option Value → GW → Prop} (hS : SK g w) {N f n : Nat} (hN : N ≤ 600) (hc : mChain (mA σ) N f n) (hn6 : n < 600) (k : Q (some (.int (nI (mDown (mA σ) f n)))) (put g σ w)) : gM g d mX10_below [.ref (eB g + 70), .int (nI f), .int (nI n)] (put g σ w) Q := by
  refine gM.of (by decide) (Nat.le_of_ble_eq_true rfl) ?_
  refine g_iload_n dX10_below_0 rfl ?_
  refine g_istore_n dX10_below_1 (by decide) rfl ?_
  refine g_iconstV (v := 0) dX10_below_2 (by decide) ?_
  refine g_istore dX10_below_3 (by decide) rfl ?_
  exact m_below_loop hS hN hc hn6 k n 0 (by omega)
