/-- fail(kind): a new fault without an earlier one, at the step where the run is -/
def mFail (σ : MW) (n : Nat) (kd : Int32) : MW := mThrow σ n kd (mI σ 30) 0 (-1) 0
set_option maxHeartbeats 4000000 in
set_option maxRecDepth 20000 in
theorem m_fail {g : GE} {d : Nat} {w : GW} {σ : MW} {Q : Option Value → GW → Prop} (hd : 1 ≤ d) (hS : SK g w) {n : Nat} {kd : Int32} (hn : mI σ 22 = nI n) (hn2 : n < 600) (k : Q none (put g (mFail σ n kd) w)) : gM g d mX10_fail [.ref (eB g + 70), .int kd] (put g σ w) Q := by
  refine gM.of (by decide) (Nat.le_of_ble_eq_true rfl) ?_
  refine g_aload_n dX10_fail_0 rfl ?_
  refine g_iload_n dX10_fail_1 rfl ?_
  refine g_aload_n dX10_fail_2 rfl ?_
  refine mg_getI 30 dX10_fail_3 fX10_141 rfl (by decide) hS ?_
  refine g_iconstV (v := 0) dX10_fail_6 (by decide) ?_
  refine g_iconstV (v := -1) dX10_fail_7 (by decide) ?_
  refine g_callV (d1 := d - 1) (As := [_, _, _, _]) 9 dX10_fail_8 vX10_144 (by omega) (mg_ob hS) rfl rfl (Nat.le_of_ble_eq_true rfl) ?_
  refine m_throwNew hS hn hn2 (Or.inl ⟨by decide, rfl⟩) ?_
  refine g_vret dX10_fail_11 rfl ?_
  exact k
set_option maxHeartbeats 4000000 in
set_option maxRecDepth 20000 in
theorem m_isCounted {g : GE} {d : Nat} {w : GW} {σ : MW} {Q : Option Value → GW → Prop} (hS : SK g w) {n : Nat} (hn : mI σ 34 = nI n) (hn2 : n ≤ 200) (k1 : n = 200 → Q (some (.int 0)) (put g σ w)) (k2 : n < 200 → Q (some (.int 1)) (put g (sI σ 34 (nI (n + 1))) w)) : gM g d mX10_isCounted [.ref (eB g + 70)] (put g σ w) Q := by
  refine gM.of (by decide) (Nat.le_of_ble_eq_true rfl) ?_
  refine g_aload_n dX10_isCounted_0 rfl ?_
  refine mg_getI 34 dX10_isCounted_1 fX10_184 rfl (by decide) hS ?_
  refine g_sipushV (v := 200) dX10_isCounted_4 (by decide) ?_
  refine g_icmp_ne 12 dX10_isCounted_7 (by decide) (fun c1 => ?_) (fun c1 => ?_)
  · refine g_aload_n dX10_isCounted_12 rfl ?_
    refine g_dup dX10_isCounted_13 rfl ?_
    refine mg_getI 34 dX10_isCounted_14 fX10_184 rfl (by decide) hS ?_
    refine g_iconstV (v := 1) dX10_isCounted_17 (by decide) ?_
    refine g_iadd dX10_isCounted_18 ?_
    refine mg_putI 34 dX10_isCounted_19 fX10_184 rfl (by decide) hS ?_
    refine g_iconstV (v := 1) dX10_isCounted_22 (by decide) ?_
    refine g_zret dX10_isCounted_23 rfl rfl ?_
    first
      | exact k1 ((nI_eq (by omega) (by decide)).mp (show nI n = nI 200 from hn ▸ c1))
      | (have h2 : n < 200 := (by rcases Nat.lt_or_ge n 200 with q | q; exact q; exact absurd (by rw [hn, show n = 200 by omega]; rfl) c1)
         have e : mI σ 34 + 1 = nI (n + 1) := (by rw [hn]; exact nI_1 n)
         exact e ▸ k2 h2)
  · refine g_iconstV (v := 0) dX10_isCounted_10 (by decide) ?_
    refine g_zret dX10_isCounted_11 rfl rfl ?_
    first
      | exact k1 ((nI_eq (by omega) (by decide)).mp (show nI n = nI 200 from hn ▸ c1))
      | (have h2 : n < 200 := (by rcases Nat.lt_or_ge n 200 with q | q; exact q; exact absurd (by rw [hn, show n = 200 by omega]; rfl) c1)
         have e : mI σ 34 + 1 = nI (n + 1) := (by rw [hn]; exact nI_1 n)
         exact e ▸ k2 h2)
set_option maxHeartbeats 4000000 in
set_option maxRecDepth 20000 in
theorem m_note {g : GE} {d : Nat} {w : GW} {σ : MW} {Q : Option Value → GW → Prop} (hS : SK g w) {n : Nat} {x : UInt64} (hn : mI σ 38 = nI n) (hn2 : n < 1000) (k : Q none (put g (sI (sD σ 26 n x) 38 (nI (n + 1))) w)) : gM g d mX10_note [.ref (eB g + 70), .double x] (put g σ w) Q := by
  refine gM.of (by decide) (Nat.le_of_ble_eq_true rfl) ?_
  refine g_aload_n dX10_note_0 rfl ?_
  refine mg_getA 37 26 dX10_note_1 fX10_94 rfl rt_26 hS ?_
  refine g_aload_n dX10_note_4 rfl ?_
  refine mg_getI 38 dX10_note_5 fX10_207 rfl (by decide) hS ?_
  refine g_dload_n dX10_note_8 rfl ?_
  refine mg_dast dX10_note_9 (by first | exact rfl | assumption) rfl rfl (by omega) hS ?_
  refine g_aload_n dX10_note_10 rfl ?_
  refine g_dup dX10_note_11 rfl ?_
  refine mg_getI 38 dX10_note_12 fX10_207 rfl (by decide) hS ?_
  refine g_iconstV (v := 1) dX10_note_15 (by decide) ?_
  refine g_iadd dX10_note_16 ?_
  refine mg_putI 38 dX10_note_17 fX10_207 rfl (by decide) hS ?_
  refine g_vret dX10_note_20 rfl ?_
  have e : mI σ 38 + 1 = nI (n + 1) := by rw [hn]; exact nI_1 n
  exact e ▸ k
set_option maxHeartbeats 4000000 in
set_option maxRecDepth 20000 in
theorem m_clear {g : GE} {d : Nat} {w : GW} {σ : MW} {Q : Option Value → GW → Prop} (hS : SK g w) {r : Nat} (hr : mI σ 11 = nI r) (hr2 : r < 4) (k : Q (some (.int (mA σ 6 r))) (put g (sA (sA σ 6 r 0) 7 r 0) w)) : gM g d mX10_clear [.ref (eB g + 70)] (put g σ w) Q := by
  refine gM.of (by decide) (Nat.le_of_ble_eq_true rfl) ?_
  refine g_aload_n dX10_clear_0 rfl ?_
  refine mg_getA 6 6 dX10_clear_1 fX10_28 rfl rt_6 hS ?_
  refine g_aload_n dX10_clear_4 rfl ?_
  refine mg_getI 11 dX10_clear_5 fX10_104 rfl (by decide) hS ?_
  refine mg_iald dX10_clear_8 (by first | exact rfl | assumption) rfl rfl (by omega) hS ?_
  refine g_istore_n dX10_clear_9 (by decide) rfl ?_
  refine g_aload_n dX10_clear_10 rfl ?_
  refine mg_getA 6 6 dX10_clear_11 fX10_28 rfl rt_6 hS ?_
  refine g_aload_n dX10_clear_14 rfl ?_
  refine mg_getI 11 dX10_clear_15 fX10_104 rfl (by decide) hS ?_
  refine g_iconstV (v := 0) dX10_clear_18 (by decide) ?_
  refine mg_iast dX10_clear_19 (by first | exact rfl | assumption) rfl rfl (by omega) hS ?_
  refine g_aload_n dX10_clear_20 rfl ?_
  refine mg_getA 7 7 dX10_clear_21 fX10_31 rfl rt_7 hS ?_
  refine g_aload_n dX10_clear_24 rfl ?_
  refine mg_getI 11 dX10_clear_25 fX10_104 rfl (by decide) hS ?_
  refine g_iconstV (v := 0) dX10_clear_28 (by decide) ?_
  refine mg_iast dX10_clear_29 (by first | exact rfl | assumption) rfl rfl (by omega) hS ?_
  refine g_iload_n dX10_clear_30 rfl ?_
  refine g_iret dX10_clear_31 rfl ?_
  exact k
theorem fIn_1 {v lo hi : Int32} : fIn v lo hi = 1 ↔ ¬ v < lo ∧ ¬ hi < v := by
  unfold fIn
  by_cases h1 : v < lo
  · simp [h1]
  · by_cases h2 : hi < v <;> simp [h1, h2]
theorem fIn_nI {v : Int32} (hi : Nat) (hh : hi < 2 ^ 31) (h : ¬ fIn v 0 (nI hi) = 0) : ∃ j : Nat, j ≤ hi ∧ v = nI j := by
  obtain ⟨h1, h2⟩ := fIn_1.mp ((fIn_01 v 0 (nI hi)).resolve_left h)
  obtain ⟨j, hj, rfl⟩ := nI_of h1
  refine ⟨j, ?_, rfl⟩
  rcases Nat.lt_or_ge hi j with q | q
  · exact absurd (nI_lt q hj) h2
  · exact q
set_option maxHeartbeats 4000000 in
set_option maxRecDepth 20000 in
theorem m_choose {g : GE} {d : Nat} {w : GW} {σ : MW} {Q : Option Value → GW → Prop} (hd : 1 ≤ d) (hS : SK g w) {v : Int32} (k1 : fIn v 0 3 = 0 → Q (some (.int (-1))) (put g σ w)) (k2 : ∀ r : Nat, r < 4 → v = nI r → Q (some (.int (mA σ 6 r))) (put g (sI σ 11 (nI r)) w)) : gM g d mX10_choose [.ref (eB g + 70), .int v] (put g σ w) Q := by
  refine gM.of (by decide) (Nat.le_of_ble_eq_true rfl) ?_
  refine g_iload_n dX10_choose_0 rfl ?_
  refine g_iconstV (v := 0) dX10_choose_1 (by decide) ?_
  refine g_iconstV (v := 3) dX10_choose_2 (by decide) ?_
  refine g_callS (d1 := d - 1) (As := [_, _, _]) dX10_choose_3 sX10_100 (by omega) rfl rfl (Nat.le_of_ble_eq_true rfl) ?_
  refine m_isIn ?_
  refine g_if_ne 11 dX10_choose_6 (by decide) (fun c1 => ?_) (fun c1 => ?_)
  · obtain ⟨r, hr, rfl⟩ := fIn_nI 3 (by decide) c1
    refine g_aload_n dX10_choose_11 rfl ?_
    refine g_iload_n dX10_choose_12 rfl ?_
    refine mg_putI 11 dX10_choose_13 fX10_104 rfl (by decide) hS ?_
    refine g_aload_n dX10_choose_16 rfl ?_
    refine mg_getA 6 6 dX10_choose_17 fX10_28 rfl rt_6 hS ?_
    refine g_iload_n dX10_choose_20 rfl ?_
    refine mg_iald dX10_choose_21 (by first | exact rfl | assumption) rfl rfl (by omega) hS ?_
    refine g_iret dX10_choose_22 rfl ?_
    first
      | exact k2 r (by omega) rfl
      | exact k1 (Classical.byContradiction c1)
      | exact k1 c1
  · refine g_iconstV (v := -1) dX10_choose_9 (by decide) ?_
    refine g_iret dX10_choose_10 rfl ?_
    first
      | exact k2 r (by omega) rfl
      | exact k1 (Classical.byContradiction c1)
      | exact k1 c1
/-- round(): no round is left -/
def mRoundOut (σ : MW) (o e : Nat) : MW := sI (sI σ 29 (nI o)) 30 (nI (e + 1))
/-- round(): one more, counted -/
def mRoundOn (σ : MW) (o p l c : Nat) : MW := sI (sI (sI (sA σ 23 o (nI l)) 30 (nI p)) 34 (nI (c + 1))) 30 (nI (p + 1))
/-- round(): one more, but it isn't counted -/
def mRoundTired (σ : MW) (o p l n : Nat) : MW := mFail (sI (sA σ 23 o (nI l)) 30 (nI p)) n 10
set_option maxHeartbeats 4000000 in
set_option maxRecDepth 20000 in
theorem m_roundOut {g : GE} {d : Nat} {w : GW} {σ : MW} {Q : Option Value → GW → Prop} (hS : SK g w) {o p e : Nat} (ho : mI σ 29 = nI (o + 1)) (ho2 : o < 60) (hl : mA σ 23 o = 0) (hp : mA σ 22 o = nI p) (hp2 : p < 160) (he : mA σ 4 p = nI e) (k : Q none (put g (mRoundOut σ o e) w)) : gM g d mX10_round [.ref (eB g + 70)] (put g σ w) Q := by
  refine gM.of (by decide) (Nat.le_of_ble_eq_true rfl) ?_
  have eo : mI σ 29 - 1 = nI o := by rw [ho]; exact nI_pred o
  refine g_aload_n dX10_round_0 rfl ?_
  refine mg_getI 29 dX10_round_1 fX10_156 rfl (by decide) hS ?_
  refine g_iconstV (v := 1) dX10_round_4 (by decide) ?_
  refine g_isub dX10_round_5 ?_
  rw [eo]
  refine g_istore_n dX10_round_6 (by decide) rfl ?_
  refine g_aload_n dX10_round_7 rfl ?_
  refine mg_getA 26 23 dX10_round_8 fX10_85 rfl rt_23 hS ?_
  refine g_iload_n dX10_round_11 rfl ?_
  refine mg_iald dX10_round_12 (by first | exact rfl | assumption) rfl rfl (by omega) hS ?_
  refine g_if_ne 44 dX10_round_13 (by decide) (fun q => absurd (hl) q) (fun _ => ?_)
  refine g_aload_n dX10_round_16 rfl ?_
  refine g_dup dX10_round_17 rfl ?_
  refine mg_getI 29 dX10_round_18 fX10_156 rfl (by decide) hS ?_
  refine g_iconstV (v := 1) dX10_round_21 (by decide) ?_
  refine g_isub dX10_round_22 ?_
  rw [eo]
  refine mg_putI 29 dX10_round_23 fX10_156 rfl (by decide) hS ?_
  refine g_aload_n dX10_round_26 rfl ?_
  refine g_aload_n dX10_round_27 rfl ?_
  refine mg_getA 4 4 dX10_round_28 fX10_22 rfl rt_4 hS ?_
  refine g_aload_n dX10_round_31 rfl ?_
  refine mg_getA 25 22 dX10_round_32 fX10_82 rfl rt_22 hS ?_
  refine g_iload_n dX10_round_35 rfl ?_
  refine mg_iald dX10_round_36 (by first | exact rfl | assumption) rfl rfl (by omega) hS ?_
  refine mg_iald dX10_round_37 (by first | exact rfl | assumption) rfl rfl (by omega) hS ?_
  refine g_iconstV (v := 1) dX10_round_38 (by decide) ?_
  refine g_iadd dX10_round_39 ?_
  refine mg_putI 30 dX10_round_40 fX10_141 rfl (by decide) hS ?_
  refine g_vret dX10_round_43 rfl ?_
  have e1 : mA σ 4 p + 1 = nI (e + 1) := by rw [he]; exact nI_1 e
  exact e1 ▸ k
set_option maxHeartbeats 4000000 in
set_option maxRecDepth 20000 in
theorem m_roundOn {g : GE} {d : Nat} {w : GW} {σ : MW} {Q : Option Value → GW → Prop} (hd : 1 ≤ d) (hS : SK g w) {o p l c : Nat} (ho : mI σ 29 = nI (o + 1)) (ho2 : o < 60) (hl : mA σ 23 o = nI (l + 1)) (hl2 : l < 100) (hp : mA σ 22 o = nI p) (hp2 : p < 160) (hc : mI σ 34 = nI c) (hc2 : c < 200) (k : Q none (put g (mRoundOn σ o p l c) w)) : gM g d mX10_round [.ref (eB g + 70)] (put g σ w) Q := by
  refine gM.of (by decide) (Nat.le_of_ble_eq_true rfl) ?_
  have eo : mI σ 29 - 1 = nI o := by rw [ho]; exact nI_pred o
  have el : mA σ 23 o - 1 = nI l := by rw [hl]; exact nI_pred l
  refine g_aload_n dX10_round_0 rfl ?_
  refine mg_getI 29 dX10_round_1 fX10_156 rfl (by decide) hS ?_
  refine g_iconstV (v := 1) dX10_round_4 (by decide) ?_
  refine g_isub dX10_round_5 ?_
  rw [eo]
  refine g_istore_n dX10_round_6 (by decide) rfl ?_
  refine g_aload_n dX10_round_7 rfl ?_
  refine mg_getA 26 23 dX10_round_8 fX10_85 rfl rt_23 hS ?_
  refine g_iload_n dX10_round_11 rfl ?_
  refine mg_iald dX10_round_12 (by first | exact rfl | assumption) rfl rfl (by omega) hS ?_
  refine g_if_ne 44 dX10_round_13 (by decide) (fun _ => ?_) (fun q => absurd q (by rw [hl]; exact nI_ne0 (by omega) (by omega)))
  refine g_aload_n dX10_round_44 rfl ?_
  refine mg_getA 26 23 dX10_round_45 fX10_85 rfl rt_23 hS ?_
  refine g_iload_n dX10_round_48 rfl ?_
  refine g_dup2 dX10_round_49 rfl rfl ?_
  refine mg_iald dX10_round_50 rfl rfl rfl (by omega) hS ?_
  refine g_iconstV (v := 1) dX10_round_51 (by decide) ?_
  refine g_isub dX10_round_52 ?_
  rw [el]
  refine mg_iast dX10_round_53 (by first | exact rfl | assumption) rfl rfl (by omega) hS ?_
  refine g_aload_n dX10_round_54 rfl ?_
  refine g_aload_n dX10_round_55 rfl ?_
  refine mg_getA 25 22 dX10_round_56 fX10_82 rfl rt_22 hS ?_
  refine g_iload_n dX10_round_59 rfl ?_
  refine mg_iald dX10_round_60 (by first | exact rfl | assumption) rfl rfl (by omega) hS ?_
  rw [show mA (sA σ 23 o (nI l)) 22 o = nI p from hp]
  refine mg_putI 30 dX10_round_61 fX10_141 rfl (by decide) hS ?_
  refine g_aload_n dX10_round_64 rfl ?_
  refine g_callV (d1 := d - 1) (As := []) 9 dX10_round_65 vX10_187 (by omega) (mg_ob hS) rfl rfl (Nat.le_of_ble_eq_true rfl) ?_
  refine m_isCounted hS (n := c) hc (by omega) (fun q => absurd q (by omega)) (fun _ => ?_)
  refine g_if_eq 84 dX10_round_68 (by decide) (fun q => absurd q (by decide)) (fun _ => ?_)
  refine g_aload_n dX10_round_71 rfl ?_
  refine g_dup dX10_round_72 rfl ?_
  refine mg_getI 30 dX10_round_73 fX10_141 rfl (by decide) hS ?_
  refine g_iconstV (v := 1) dX10_round_76 (by decide) ?_
  refine g_iadd dX10_round_77 ?_
  refine mg_putI 30 dX10_round_78 fX10_141 rfl (by decide) hS ?_
  refine g_goto 90 dX10_round_81 (by decide) ?_
  refine g_vret dX10_round_90 rfl ?_
  have e1 : nI p + 1 = nI (p + 1) := nI_1 p
  exact e1 ▸ k
set_option maxHeartbeats 4000000 in
set_option maxRecDepth 20000 in
theorem m_roundTired {g : GE} {d : Nat} {w : GW} {σ : MW} {Q : Option Value → GW → Prop} (hd : 2 ≤ d) (hS : SK g w) {o p l n : Nat} (ho : mI σ 29 = nI (o + 1)) (ho2 : o < 60) (hl : mA σ 23 o = nI (l + 1)) (hl2 : l < 100) (hp : mA σ 22 o = nI p) (hp2 : p < 160) (hc : mI σ 34 = nI 200) (hn : mI σ 22 = nI n) (hn2 : n < 600) (k : Q none (put g (mRoundTired σ o p l n) w)) : gM g d mX10_round [.ref (eB g + 70)] (put g σ w) Q := by
  refine gM.of (by decide) (Nat.le_of_ble_eq_true rfl) ?_
  have eo : mI σ 29 - 1 = nI o := by rw [ho]; exact nI_pred o
  have el : mA σ 23 o - 1 = nI l := by rw [hl]; exact nI_pred l
  refine g_aload_n dX10_round_0 rfl ?_
  refine mg_getI 29 dX10_round_1 fX10_156 rfl (by decide) hS ?_
  refine g_iconstV (v := 1) dX10_round_4 (by decide) ?_
  refine g_isub dX10_round_5 ?_
  rw [eo]
  refine g_istore_n dX10_round_6 (by decide) rfl ?_
  refine g_aload_n dX10_round_7 rfl ?_
  refine mg_getA 26 23 dX10_round_8 fX10_85 rfl rt_23 hS ?_
  refine g_iload_n dX10_round_11 rfl ?_
  refine mg_iald dX10_round_12 (by first | exact rfl | assumption) rfl rfl (by omega) hS ?_
  refine g_if_ne 44 dX10_round_13 (by decide) (fun _ => ?_) (fun q => absurd q (by rw [hl]; exact nI_ne0 (by omega) (by omega)))
  refine g_aload_n dX10_round_44 rfl ?_
  refine mg_getA 26 23 dX10_round_45 fX10_85 rfl rt_23 hS ?_
  refine g_iload_n dX10_round_48 rfl ?_
  refine g_dup2 dX10_round_49 rfl rfl ?_
  refine mg_iald dX10_round_50 rfl rfl rfl (by omega) hS ?_
  refine g_iconstV (v := 1) dX10_round_51 (by decide) ?_
  refine g_isub dX10_round_52 ?_
  rw [el]
  refine mg_iast dX10_round_53 (by first | exact rfl | assumption) rfl rfl (by omega) hS ?_
  refine g_aload_n dX10_round_54 rfl ?_
  refine g_aload_n dX10_round_55 rfl ?_
  refine mg_getA 25 22 dX10_round_56 fX10_82 rfl rt_22 hS ?_
  refine g_iload_n dX10_round_59 rfl ?_
  refine mg_iald dX10_round_60 (by first | exact rfl | assumption) rfl rfl (by omega) hS ?_
  rw [show mA (sA σ 23 o (nI l)) 22 o = nI p from hp]
  refine mg_putI 30 dX10_round_61 fX10_141 rfl (by decide) hS ?_
  refine g_aload_n dX10_round_64 rfl ?_
  refine g_callV (d1 := d - 1) (As := []) 9 dX10_round_65 vX10_187 (by omega) (mg_ob hS) rfl rfl (Nat.le_of_ble_eq_true rfl) ?_
  refine m_isCounted hS (n := 200) hc (by omega) (fun _ => ?_) (fun q => absurd q (by omega))
  refine g_if_eq 84 dX10_round_68 (by decide) (fun _ => ?_) (fun q => absurd (by decide) q)
  refine g_aload_n dX10_round_84 rfl ?_
  refine g_bipushV (v := 10) dX10_round_85 (by decide) ?_
  refine g_callV (d1 := d - 1) (As := [_]) 9 dX10_round_87 vX10_191 (by omega) (mg_ob hS) rfl rfl (Nat.le_of_ble_eq_true rfl) ?_
  refine m_fail (by omega) hS hn hn2 ?_
  refine g_vret dX10_round_90 rfl ?_
  exact k
