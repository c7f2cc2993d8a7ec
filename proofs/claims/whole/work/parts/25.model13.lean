set_option maxHeartbeats 4000000 in
set_option maxRecDepth 20000 in
theorem m_dial {g : GE} {d : Nat} {w : GW} {σ : MW} {Q : Option Value → GW → Prop} (hd : 2 ≤ d) (hS : SK g w) {v : Int32} (k1 : fIn v 0 7 = 0 → Q (some (.double FP.dconst0)) (put g σ w)) (k2 : ∀ j : Nat, j < 8 → v = nI j → Q (some (.double (mD σ 11 j))) (put g σ w)) : gM g d mX10_dial [.ref (eB g + 70), .int v] (put g σ w) Q := by
  refine gM.of (by decide) (Nat.le_of_ble_eq_true rfl) ?_
  refine g_iload_n dX10_dial_0 rfl ?_
  refine g_callS (d1 := d - 1) (As := [_]) dX10_dial_1 sX10_107 (by omega) rfl rfl (Nat.le_of_ble_eq_true rfl) ?_
  refine m_isDial (by omega) ?_
  refine g_if_eq 16 dX10_dial_4 (by decide) (fun c1 => ?_) (fun c1 => ?_)
  · refine g_dconst0 dX10_dial_16 ?_
    refine g_dret dX10_dial_17 rfl ?_
    exact k1 c1
  · obtain ⟨j, hj, rfl⟩ := fIn_nI 7 (by decide) c1
    refine g_aload_n dX10_dial_7 rfl ?_
    refine mg_getA 12 11 dX10_dial_8 fX10_43 rfl rt_11 hS ?_
    refine g_iload_n dX10_dial_11 rfl ?_
    refine mg_dald dX10_dial_12 (by first | exact rfl | assumption) rfl rfl (by omega) hS ?_
    refine g_goto 17 dX10_dial_13 (by decide) ?_
    refine g_dret dX10_dial_17 rfl ?_
    exact k2 j (by omega) rfl
set_option maxHeartbeats 4000000 in
set_option maxRecDepth 20000 in
theorem m_size {g : GE} {d : Nat} {w : GW} {σ : MW} {Q : Option Value → GW → Prop} (hd : 2 ≤ d) (hS : SK g w) {v : Int32} (k1 : fIn v 0 17 = 0 → Q (some (.int (-2))) (put g σ w)) (k2 : ∀ r : Nat, r < 18 → v = nI r → Q (some (.int (if mA σ 12 r = 0 then -1 else mA σ 13 r))) (put g σ w)) : gM g d mX10_size [.ref (eB g + 70), .int v] (put g σ w) Q := by
  refine gM.of (by decide) (Nat.le_of_ble_eq_true rfl) ?_
  refine g_iload_n dX10_size_0 rfl ?_
  refine g_callS (d1 := d - 1) (As := [_]) dX10_size_1 sX10_111 (by omega) rfl rfl (Nat.le_of_ble_eq_true rfl) ?_
  refine m_isRow (by omega) ?_
  refine g_if_ne 10 dX10_size_4 (by decide) (fun c1 => ?_) (fun c1 => ?_)
  · obtain ⟨r, hr, rfl⟩ := fIn_nI 17 (by decide) c1
    replace k2 := k2 r (by omega) rfl
    refine g_aload_n dX10_size_10 rfl ?_
    refine mg_getA 13 12 dX10_size_11 fX10_47 rfl rt_12 hS ?_
    refine g_iload_n dX10_size_14 rfl ?_
    refine mg_zald dX10_size_15 (by first | exact rfl | assumption) rfl rfl (by omega) hS ?_
    refine g_if_eq 28 dX10_size_16 (by decide) (fun c2 => ?_) (fun c2 => ?_)
    · refine g_iconstV (v := -1) dX10_size_28 (by decide) ?_
      refine g_iret dX10_size_29 rfl ?_
      simpa [c2] using k2
    · refine g_aload_n dX10_size_19 rfl ?_
      refine mg_getA 14 13 dX10_size_20 fX10_51 rfl rt_13 hS ?_
      refine g_iload_n dX10_size_23 rfl ?_
      refine mg_iald dX10_size_24 (by first | exact rfl | assumption) rfl rfl (by omega) hS ?_
      refine g_goto 29 dX10_size_25 (by decide) ?_
      refine g_iret dX10_size_29 rfl ?_
      simpa [c2] using k2
  · refine g_bipushV (v := -2) dX10_size_7 (by decide) ?_
    refine g_iret dX10_size_9 rfl ?_
    exact k1 c1
theorem mFaultOf_0 {σ : MW} {r L : Nat} {i pr : Int32} (hL : ¬ mA σ 12 r = 0 → mA σ 13 r = nI L) (hL2 : L ≤ 16) (h : mFaultOf σ r i pr = 0) : ¬ mA σ 12 r = 0 ∧ ∃ j : Nat, j < L ∧ i = nI j := by
  unfold mFaultOf at h
  by_cases h1 : mA σ 12 r = 0
  · rw [if_pos h1] at h; exact absurd h (by decide)
  · rw [if_neg h1] at h
    by_cases h2 : fIn i 0 (mA σ 13 r - 1) = 0
    · rw [if_pos h2] at h; exact absurd h (by decide)
    · refine ⟨h1, ?_⟩
      obtain ⟨q1, q2⟩ := fIn_1.mp ((fIn_01 i 0 (mA σ 13 r - 1)).resolve_left h2)
      obtain ⟨j, hj, rfl⟩ := nI_of q1
      refine ⟨j, ?_, rfl⟩
      rw [hL h1] at q2
      rcases Nat.lt_or_ge j L with z | z
      · exact z
      · refine absurd ?_ q2
        rcases Nat.eq_zero_or_pos L with z0 | z0
        · subst z0; exact Int32.lt_of_lt_of_le (by decide : (nI 0 - 1 : Int32) < 0) (nI_pos' hj)
        · rw [show nI L - 1 = nI (L - 1) from pk_sub z0]; exact nI_lt (by omega) hj
set_option maxHeartbeats 4000000 in
set_option maxRecDepth 20000 in
theorem m_value {g : GE} {d : Nat} {w : GW} {σ : MW} {Q : Option Value → GW → Prop} (hd : 2 ≤ d) (hS : SK g w) {LL : Nat → Nat} (hL : ∀ r, r < 18 → (¬ mA σ 12 r = 0 → mA σ 13 r = nI (LL r)) ∧ LL r ≤ 16) {v i : Int32} (k1 : fIn v 0 17 = 0 → Q (some (.double FP.dconst0)) (put g σ w)) (k2 : ∀ r : Nat, r < 18 → v = nI r → ¬ mFaultOf σ r i 1 = 0 → Q (some (.double FP.dconst0)) (put g σ w)) (k3 : ∀ r j : Nat, r < 18 → j < 16 → v = nI r → i = nI j → mFaultOf σ r i 1 = 0 → Q (some (.double (mD σ 14 (16 * r + j)))) (put g σ w)) : gM g d mX10_value [.ref (eB g + 70), .int v, .int i] (put g σ w) Q := by
  refine gM.of (by decide) (Nat.le_of_ble_eq_true rfl) ?_
  refine g_iload_n dX10_value_0 rfl ?_
  refine g_callS (d1 := d - 1) (As := [_]) dX10_value_1 sX10_111 (by omega) rfl rfl (Nat.le_of_ble_eq_true rfl) ?_
  refine m_isRow (by omega) ?_
  refine g_if_eq 31 dX10_value_4 (by decide) (fun c1 => ?_) (fun c1 => ?_)
  · refine g_dconst0 dX10_value_31 ?_
    refine g_dret dX10_value_32 rfl ?_
    exact k1 c1
  · obtain ⟨r, hr, rfl⟩ := fIn_nI 17 (by decide) c1
    refine g_aload_n dX10_value_7 rfl ?_
    refine g_iload_n dX10_value_8 rfl ?_
    refine g_iload_n dX10_value_9 rfl ?_
    refine g_iconstV (v := 1) dX10_value_10 (by decide) ?_
    refine g_callV (d1 := d - 1) (As := [_, _, _]) 9 dX10_value_11 vX10_244 (by omega) (mg_ob hS) rfl rfl (Nat.le_of_ble_eq_true rfl) ?_
    refine m_faultOf (by omega) hS (by omega) (hL r (by omega)).1 (hL r (by omega)).2 ?_
    refine g_if_ne 31 dX10_value_14 (by decide) (fun c2 => ?_) (fun c2 => ?_)
    · refine g_dconst0 dX10_value_31 ?_
      refine g_dret dX10_value_32 rfl ?_
      exact k2 r (by omega) rfl c2
    · obtain ⟨-, j, hj, rfl⟩ := mFaultOf_0 (hL r (by omega)).1 (hL r (by omega)).2 c2
      have hj2 := (hL r (by omega)).2
      have e16 : (16 : Int32) * nI r + nI j = nI (16 * r + j) := by rw [show (16 : Int32) = nI 16 from rfl, pk_mul, nI_add]
      refine g_aload_n dX10_value_17 rfl ?_
      refine mg_getA 15 14 dX10_value_18 fX10_54 rfl rt_14 hS ?_
      refine g_bipushV (v := 16) dX10_value_21 (by decide) ?_
      refine g_iload_n dX10_value_23 rfl ?_
      refine g_imul dX10_value_24 ?_
      refine g_iload_n dX10_value_25 rfl ?_
      refine g_iadd dX10_value_26 ?_
      rw [e16]
      refine mg_dald dX10_value_27 (by first | exact rfl | assumption) rfl rfl (by omega) hS ?_
      refine g_goto 32 dX10_value_28 (by decide) ?_
      refine g_dret dX10_value_32 rfl ?_
      exact k3 r j (by omega) (by omega) rfl rfl c2
set_option maxHeartbeats 4000000 in
set_option maxRecDepth 20000 in
theorem m_isFitted {g : GE} {d : Nat} {w : GW} {σ : MW} {Q : Option Value → GW → Prop} (hd : 2 ≤ d) (hS : SK g w) {LL : Nat → Nat} (hL : ∀ r, r < 18 → (¬ mA σ 12 r = 0 → mA σ 13 r = nI (LL r)) ∧ LL r ≤ 16) {v i : Int32} (k1 : fIn v 0 17 = 0 → Q (some (.int 0)) (put g σ w)) (k2 : ∀ r : Nat, r < 18 → v = nI r → Q (some (.int (if 16 ≤ r ∧ mFaultOf σ r i 1 = 0 then 1 else 0))) (put g σ w)) : gM g d mX10_isFitted [.ref (eB g + 70), .int v, .int i] (put g σ w) Q := by
  refine gM.of (by decide) (Nat.le_of_ble_eq_true rfl) ?_
  refine g_iload_n dX10_isFitted_0 rfl ?_
  refine g_callS (d1 := d - 1) (As := [_]) dX10_isFitted_1 sX10_111 (by omega) rfl rfl (Nat.le_of_ble_eq_true rfl) ?_
  refine m_isRow (by omega) ?_
  refine g_if_eq 27 dX10_isFitted_4 (by decide) (fun c1 => ?_) (fun c1 => ?_)
  · refine g_iconstV (v := 0) dX10_isFitted_27 (by decide) ?_
    refine g_zret dX10_isFitted_28 rfl rfl ?_
    exact k1 c1
  · obtain ⟨r, hr, rfl⟩ := fIn_nI 17 (by decide) c1
    replace k2 := k2 r (by omega) rfl
    have e6 : nI r < 16 ↔ ¬ 16 ≤ r := by rw [show (16 : Int32) = nI 16 from rfl, nI_ltI (by omega) (by decide)]; omega
    refine g_iload_n dX10_isFitted_7 rfl ?_
    refine g_bipushV (v := 16) dX10_isFitted_8 (by decide) ?_
    refine g_icmp_lt 27 dX10_isFitted_10 (by decide) (fun c2 => ?_) (fun c2 => ?_)
    · refine g_iconstV (v := 0) dX10_isFitted_27 (by decide) ?_
      refine g_zret dX10_isFitted_28 rfl rfl ?_
      rw [e6] at c2
      simpa [c2] using k2
    · refine g_aload_n dX10_isFitted_13 rfl ?_
      refine g_iload_n dX10_isFitted_14 rfl ?_
      refine g_iload_n dX10_isFitted_15 rfl ?_
      refine g_iconstV (v := 1) dX10_isFitted_16 (by decide) ?_
      refine g_callV (d1 := d - 1) (As := [_, _, _]) 9 dX10_isFitted_17 vX10_244 (by omega) (mg_ob hS) rfl rfl (Nat.le_of_ble_eq_true rfl) ?_
      refine m_faultOf (by omega) hS (by omega) (hL r (by omega)).1 (hL r (by omega)).2 ?_
      refine g_if_ne 27 dX10_isFitted_20 (by decide) (fun c3 => ?_) (fun c3 => ?_)
      · refine g_iconstV (v := 0) dX10_isFitted_27 (by decide) ?_
        refine g_zret dX10_isFitted_28 rfl rfl ?_
        rw [e6, Classical.not_not] at c2
        simpa [c2, c3] using k2
      · refine g_iconstV (v := 1) dX10_isFitted_23 (by decide) ?_
        refine g_goto 28 dX10_isFitted_24 (by decide) ?_
        refine g_zret dX10_isFitted_28 rfl rfl ?_
        rw [e6, Classical.not_not] at c2
        simpa [c2, c3] using k2
theorem log_ix {v : Int32} {n : Nat} (hn : n ≤ 1000) (h : ¬ fIn v 0 (nI n - 1) = 0) : ∃ j : Nat, j < n ∧ v = nI j := by
  obtain ⟨q1, q2⟩ := fIn_1.mp ((fIn_01 v 0 (nI n - 1)).resolve_left h)
  obtain ⟨j, hj, rfl⟩ := nI_of q1
  refine ⟨j, ?_, rfl⟩
  rcases Nat.lt_or_ge j n with z | z
  · exact z
  · refine absurd ?_ q2
    rcases Nat.eq_zero_or_pos n with z0 | z0
    · subst z0; exact Int32.lt_of_lt_of_le (by decide : (nI 0 - 1 : Int32) < 0) (nI_pos' hj)
    · rw [show nI n - 1 = nI (n - 1) from pk_sub z0]; exact nI_lt (by omega) hj
set_option maxHeartbeats 4000000 in
set_option maxRecDepth 20000 in
theorem m_log {g : GE} {d : Nat} {w : GW} {σ : MW} {Q : Option Value → GW → Prop} (hd : 1 ≤ d) (hS : SK g w) {v : Int32} {n : Nat} (hn : mI σ 38 = nI n) (hn2 : n ≤ 1000) (k1 : fIn v 0 (nI n - 1) = 0 → Q (some (.double FP.dconst0)) (put g σ w)) (k2 : ∀ j : Nat, j < n → v = nI j → Q (some (.double (mD σ 26 j))) (put g σ w)) : gM g d mX10_log [.ref (eB g + 70), .int v] (put g σ w) Q := by
  refine gM.of (by decide) (Nat.le_of_ble_eq_true rfl) ?_
  refine g_iload_n dX10_log_0 rfl ?_
  refine g_iconstV (v := 0) dX10_log_1 (by decide) ?_
  refine g_aload_n dX10_log_2 rfl ?_
  refine mg_getI 38 dX10_log_3 fX10_207 rfl (by decide) hS ?_
  rw [hn]
  refine g_iconstV (v := 1) dX10_log_6 (by decide) ?_
  refine g_isub dX10_log_7 ?_
  refine g_callS (d1 := d - 1) (As := [_, _, _]) dX10_log_8 sX10_100 (by omega) rfl rfl (Nat.le_of_ble_eq_true rfl) ?_
  refine m_isIn ?_
  refine g_if_eq 23 dX10_log_11 (by decide) (fun c1 => ?_) (fun c1 => ?_)
  · refine g_dconst0 dX10_log_23 ?_
    refine g_dret dX10_log_24 rfl ?_
    exact k1 c1
  · obtain ⟨j, hj, rfl⟩ := log_ix hn2 c1
    refine g_aload_n dX10_log_14 rfl ?_
    refine mg_getA 37 26 dX10_log_15 fX10_94 rfl rt_26 hS ?_
    refine g_iload_n dX10_log_18 rfl ?_
    refine mg_dald dX10_log_19 (by first | exact rfl | assumption) rfl rfl (by omega) hS ?_
    refine g_goto 24 dX10_log_20 (by decide) ?_
    refine g_dret dX10_log_24 rfl ?_
    exact k2 j hj rfl
set_option maxHeartbeats 4000000 in
set_option maxRecDepth 20000 in
theorem m_isMinus {g : GE} {d : Nat} {w : GW} {σ : MW} {Q : Option Value → GW → Prop} (hd : 1 ≤ d) (hS : SK g w) {v : Int32} {n : Nat} (hn : mI σ 38 = nI n) (hn2 : n ≤ 1000) (hD : ∀ j, j < n → DF (mD σ 26 j)) (k1 : fIn v 0 (nI n - 1) = 0 → Q (some (.int 0)) (put g σ w)) (k2 : ∀ j : Nat, j < n → v = nI j → Q (some (.int (sMin (mD σ 26 j)))) (put g σ w)) : gM g d mX10_isMinus [.ref (eB g + 70), .int v] (put g σ w) Q := by
  refine gM.of (by decide) (Nat.le_of_ble_eq_true rfl) ?_
  refine g_iload_n dX10_isMinus_0 rfl ?_
  refine g_iconstV (v := 0) dX10_isMinus_1 (by decide) ?_
  refine g_aload_n dX10_isMinus_2 rfl ?_
  refine mg_getI 38 dX10_isMinus_3 fX10_207 rfl (by decide) hS ?_
  rw [hn]
  refine g_iconstV (v := 1) dX10_isMinus_6 (by decide) ?_
  refine g_isub dX10_isMinus_7 ?_
  refine g_callS (d1 := d - 1) (As := [_, _, _]) dX10_isMinus_8 sX10_100 (by omega) rfl rfl (Nat.le_of_ble_eq_true rfl) ?_
  refine m_isIn ?_
  refine g_if_eq 30 dX10_isMinus_11 (by decide) (fun c1 => ?_) (fun c1 => ?_)
  · refine g_iconstV (v := 0) dX10_isMinus_30 (by decide) ?_
    refine g_zret dX10_isMinus_31 rfl rfl ?_
    exact k1 c1
  · obtain ⟨j, hj, rfl⟩ := log_ix hn2 c1
    replace k2 := k2 j hj rfl
    refine g_aload_n dX10_isMinus_14 rfl ?_
    refine mg_getA 37 26 dX10_isMinus_15 fX10_94 rfl rt_26 hS ?_
    refine g_iload_n dX10_isMinus_18 rfl ?_
    refine mg_dald dX10_isMinus_19 (by first | exact rfl | assumption) rfl rfl (by omega) hS ?_
    refine g_callS (d1 := d - 1) (As := [_]) dX10_isMinus_20 sX10_272 (by omega) rfl rfl (Nat.le_of_ble_eq_true rfl) ?_
    refine m_isMinusNumber (hD j hj) ?_
    refine g_if_eq 30 dX10_isMinus_23 (by decide) (fun c2 => ?_) (fun c2 => ?_)
    · refine g_iconstV (v := 0) dX10_isMinus_30 (by decide) ?_
      refine g_zret dX10_isMinus_31 rfl rfl ?_
      rw [c2] at k2
      exact k2
    · refine g_iconstV (v := 1) dX10_isMinus_26 (by decide) ?_
      refine g_goto 31 dX10_isMinus_27 (by decide) ?_
      refine g_zret dX10_isMinus_31 rfl rfl ?_
      rw [(sMin_01 (mD σ 26 j)).resolve_left c2] at k2
      exact k2
def mCount (σ : MW) (r : Nat) (v : Int32) : Int32 := if v = 0 then mA σ 6 r else if v = 1 then mA σ 7 r else if v = 2 then mI σ 34 else if v = 3 then mI σ 38 else if v = 4 then mI σ 35 else if v = 5 then mI σ 36 else -1
set_option maxHeartbeats 4000000 in
set_option maxRecDepth 20000 in
theorem m_count {g : GE} {d : Nat} {w : GW} {σ : MW} {Q : Option Value → GW → Prop} (hS : SK g w) {v : Int32} {r : Nat} (hr : mI σ 11 = nI r) (hr2 : r < 4) (k : Q (some (.int (mCount σ r v))) (put g σ w)) : gM g d mX10_count [.ref (eB g + 70), .int v] (put g σ w) Q := by
  refine gM.of (by decide) (Nat.le_of_ble_eq_true rfl) ?_
  refine g_iload_n dX10_count_0 rfl ?_
  refine g_tsw dX10_count_1 [40, 50, 60, 65, 70, 75] 80 (by decide) (by decide) (by decide) (by decide) (by decide) ?_ (fun c1 => ?_)
  · simp only [tswK]
    refine ⟨fun c1 => ?_, fun c1 => ?_, fun c1 => ?_, fun c1 => ?_, fun c1 => ?_, fun c1 => ?_, trivial⟩
    · replace c1 := c1.trans (by decide : _ = (0 : Int32))
      refine g_aload_n dX10_count_40 rfl ?_
      refine mg_getA 6 6 dX10_count_41 fX10_28 rfl rt_6 hS ?_
      refine g_aload_n dX10_count_44 rfl ?_
      refine mg_getI 11 dX10_count_45 fX10_104 rfl (by decide) hS ?_
      refine mg_iald dX10_count_48 (by first | exact rfl | assumption) rfl rfl (by omega) hS ?_
      refine g_iret dX10_count_49 rfl ?_
      simpa [mCount, c1] using k
    · replace c1 := c1.trans (by decide : _ = (1 : Int32))
      refine g_aload_n dX10_count_50 rfl ?_
      refine mg_getA 7 7 dX10_count_51 fX10_31 rfl rt_7 hS ?_
      refine g_aload_n dX10_count_54 rfl ?_
      refine mg_getI 11 dX10_count_55 fX10_104 rfl (by decide) hS ?_
      refine mg_iald dX10_count_58 (by first | exact rfl | assumption) rfl rfl (by omega) hS ?_
      refine g_iret dX10_count_59 rfl ?_
      simpa [mCount, c1] using k
    · replace c1 := c1.trans (by decide : _ = (2 : Int32))
      refine g_aload_n dX10_count_60 rfl ?_
      refine mg_getI 34 dX10_count_61 fX10_184 rfl (by decide) hS ?_
      refine g_iret dX10_count_64 rfl ?_
      simpa [mCount, c1] using k
    · replace c1 := c1.trans (by decide : _ = (3 : Int32))
      refine g_aload_n dX10_count_65 rfl ?_
      refine mg_getI 38 dX10_count_66 fX10_207 rfl (by decide) hS ?_
      refine g_iret dX10_count_69 rfl ?_
      simpa [mCount, c1] using k
    · replace c1 := c1.trans (by decide : _ = (4 : Int32))
      refine g_aload_n dX10_count_70 rfl ?_
      refine mg_getI 35 dX10_count_71 fX10_175 rfl (by decide) hS ?_
      refine g_iret dX10_count_74 rfl ?_
      simpa [mCount, c1] using k
    · replace c1 := c1.trans (by decide : _ = (5 : Int32))
      refine g_aload_n dX10_count_75 rfl ?_
      refine mg_getI 36 dX10_count_76 fX10_166 rfl (by decide) hS ?_
      refine g_iret dX10_count_79 rfl ?_
      simpa [mCount, c1] using k
  · have c1n0 := tsw_ne c1 0 (by decide)
    have c1n1 := tsw_ne c1 1 (by decide)
    have c1n2 := tsw_ne c1 2 (by decide)
    have c1n3 := tsw_ne c1 3 (by decide)
    have c1n4 := tsw_ne c1 4 (by decide)
    have c1n5 := tsw_ne c1 5 (by decide)
    refine g_iconstV (v := -1) dX10_count_80 (by decide) ?_
    refine g_iret dX10_count_81 rfl ?_
    simpa [mCount, c1n0, c1n1, c1n2, c1n3, c1n4, c1n5] using k
def mFaultV (σ : MW) (f n : Nat) (v : Int32) : Int32 := if v = 0 then mA σ 16 f else if v = 1 then mA σ 17 f else if v = 2 then mWt (mA σ) f 0 n else if v = 3 then mA σ 18 f else if v = 4 then mA σ 20 f else if v = 5 then mA σ 17 (mDown (mA σ) f n) else -1
set_option maxHeartbeats 4000000 in
set_option maxRecDepth 20000 in
theorem m_faultNo {g : GE} {d : Nat} {w : GW} {σ : MW} {Q : Option Value → GW → Prop} (hS : SK g w) {v : Int32} (h : mI σ 23 < 0) (k : Q (some (.int (-1))) (put g σ w)) : gM g d mX10_fault [.ref (eB g + 70), .int v] (put g σ w) Q := by
  refine gM.of (by decide) (Nat.le_of_ble_eq_true rfl) ?_
  refine g_aload_n dX10_fault_0 rfl ?_
  refine mg_getI 23 dX10_fault_1 fX10_75 rfl (by decide) hS ?_
  refine g_if_ge 9 dX10_fault_4 (by decide) (fun q => absurd q (by rw [Int32.not_le]; exact h)) (fun _ => ?_)
  refine g_iconstV (v := -1) dX10_fault_7 (by decide) ?_
  refine g_iret dX10_fault_8 rfl ?_
  exact k
set_option maxHeartbeats 4000000 in
set_option maxRecDepth 20000 in
theorem m_faultYes {g : GE} {d : Nat} {w : GW} {σ : MW} {Q : Option Value → GW → Prop} (hd : 2 ≤ d) (hS : SK g w) {v : Int32} {f n N : Nat} (hf : mI σ 23 = nI f) (hN : N ≤ 600) (hc : mChain (mA σ) N f n) (hn6 : n < 600) (hm : mA σ 20 f = nI n) (k : Q (some (.int (mFaultV σ f n v))) (put g σ w)) : gM g d mX10_fault [.ref (eB g + 70), .int v] (put g σ w) Q := by
  refine gM.of (by decide) (Nat.le_of_ble_eq_true rfl) ?_
  have hf6 := hc.1
  have hd6 := hc.lt hN n (Nat.le_refl _)
  refine g_aload_n dX10_fault_0 rfl ?_
  refine mg_getI 23 dX10_fault_1 fX10_75 rfl (by decide) hS ?_
  refine g_if_ge 9 dX10_fault_4 (by decide) (fun _ => ?_) (fun q => absurd (by rw [hf]; exact nI_pos' (by omega)) q)
  refine g_iload_n dX10_fault_9 rfl ?_
  refine g_tsw dX10_fault_10 [48, 58, 68, 77, 87, 97] 120 (by decide) (by decide) (by decide) (by decide) (by decide) ?_ (fun c1 => ?_)
  · simp only [tswK]
    refine ⟨fun c1 => ?_, fun c1 => ?_, fun c1 => ?_, fun c1 => ?_, fun c1 => ?_, fun c1 => ?_, trivial⟩
    · replace c1 := c1.trans (by decide : _ = (0 : Int32))
      refine g_aload_n dX10_fault_48 rfl ?_
      refine mg_getA 17 16 dX10_fault_49 fX10_60 rfl rt_16 hS ?_
      refine g_aload_n dX10_fault_52 rfl ?_
      refine mg_getI 23 dX10_fault_53 fX10_75 rfl (by decide) hS ?_
      refine mg_iald dX10_fault_56 (by first | exact rfl | assumption) rfl rfl (by omega) hS ?_
      refine g_iret dX10_fault_57 rfl ?_
      simpa [mFaultV, c1] using k
    · replace c1 := c1.trans (by decide : _ = (1 : Int32))
      refine g_aload_n dX10_fault_58 rfl ?_
      refine mg_getA 18 17 dX10_fault_59 fX10_63 rfl rt_17 hS ?_
      refine g_aload_n dX10_fault_62 rfl ?_
      refine mg_getI 23 dX10_fault_63 fX10_75 rfl (by decide) hS ?_
      refine mg_iald dX10_fault_66 (by first | exact rfl | assumption) rfl rfl (by omega) hS ?_
      refine g_iret dX10_fault_67 rfl ?_
      simpa [mFaultV, c1] using k
    · replace c1 := c1.trans (by decide : _ = (2 : Int32))
      refine g_aload_n dX10_fault_68 rfl ?_
      refine g_aload_n dX10_fault_69 rfl ?_
      refine mg_getI 23 dX10_fault_70 fX10_75 rfl (by decide) hS ?_
      rw [hf]
      refine g_callV (d1 := d - 1) (As := [_]) 9 dX10_fault_73 vX10_229 (by omega) (mg_ob hS) rfl rfl (Nat.le_of_ble_eq_true rfl) ?_
      refine m_weight (by omega) hS hN hc hn6 hm ?_
      refine g_iret dX10_fault_76 rfl ?_
      simpa [mFaultV, c1] using k
    · replace c1 := c1.trans (by decide : _ = (3 : Int32))
      refine g_aload_n dX10_fault_77 rfl ?_
      refine mg_getA 19 18 dX10_fault_78 fX10_66 rfl rt_18 hS ?_
      refine g_aload_n dX10_fault_81 rfl ?_
      refine mg_getI 23 dX10_fault_82 fX10_75 rfl (by decide) hS ?_
      refine mg_iald dX10_fault_85 (by first | exact rfl | assumption) rfl rfl (by omega) hS ?_
      refine g_iret dX10_fault_86 rfl ?_
      simpa [mFaultV, c1] using k
    · replace c1 := c1.trans (by decide : _ = (4 : Int32))
      refine g_aload_n dX10_fault_87 rfl ?_
      refine mg_getA 21 20 dX10_fault_88 fX10_72 rfl rt_20 hS ?_
      refine g_aload_n dX10_fault_91 rfl ?_
      refine mg_getI 23 dX10_fault_92 fX10_75 rfl (by decide) hS ?_
      refine mg_iald dX10_fault_95 (by first | exact rfl | assumption) rfl rfl (by omega) hS ?_
      refine g_iret dX10_fault_96 rfl ?_
      simpa [mFaultV, c1] using k
    · replace c1 := c1.trans (by decide : _ = (5 : Int32))
      refine g_aload_n dX10_fault_97 rfl ?_
      refine mg_getA 18 17 dX10_fault_98 fX10_63 rfl rt_17 hS ?_
      refine g_aload_n dX10_fault_101 rfl ?_
      refine g_aload_n dX10_fault_102 rfl ?_
      refine mg_getI 23 dX10_fault_103 fX10_75 rfl (by decide) hS ?_
      rw [hf]
      refine g_aload_n dX10_fault_106 rfl ?_
      refine mg_getA 21 20 dX10_fault_107 fX10_72 rfl rt_20 hS ?_
      refine g_aload_n dX10_fault_110 rfl ?_
      refine mg_getI 23 dX10_fault_111 fX10_75 rfl (by decide) hS ?_
      refine mg_iald dX10_fault_114 hf rfl rfl (by omega) hS ?_
      rw [hm]
      refine g_callV (d1 := d - 1) (As := [_, _]) 9 dX10_fault_115 vX10_148 (by omega) (mg_ob hS) rfl rfl (Nat.le_of_ble_eq_true rfl) ?_
      refine m_below hS hN hc hn6 ?_
      refine mg_iald dX10_fault_118 (by first | exact rfl | assumption) rfl rfl (by omega) hS ?_
      refine g_iret dX10_fault_119 rfl ?_
      simpa [mFaultV, c1] using k
  · have c1n0 := tsw_ne c1 0 (by decide)
    have c1n1 := tsw_ne c1 1 (by decide)
    have c1n2 := tsw_ne c1 2 (by decide)
    have c1n3 := tsw_ne c1 3 (by decide)
    have c1n4 := tsw_ne c1 4 (by decide)
    have c1n5 := tsw_ne c1 5 (by decide)
    refine g_iconstV (v := -1) dX10_fault_120 (by decide) ?_
    refine g_iret dX10_fault_121 rfl ?_
    simpa [mFaultV, c1n0, c1n1, c1n2, c1n3, c1n4, c1n5] using k
