/-- from part p on the first CATCH part under which kind kd is, or the first part that is no CATCH, is q, m parts further -/
def mSC (A : Nat → Nat → Int32) (kd : Nat) : Nat → Nat → Nat → Prop
  | 0, p, q => p = q ∧ p < 160 ∧ (¬ A 0 p = 2 ∨ (A 0 p = 2 ∧ fU (A 1 p) 4 kd = 1))
  | m + 1, p, q => p < 160 ∧ A 0 p = 2 ∧ fU (A 1 p) 4 kd = 0 ∧ ∃ p' : Nat, A 5 p = nI p' ∧ mSC A kd m p' q
theorem mSC.lt {A : Nat → Nat → Int32} {kd : Nat} : ∀ {m p q : Nat}, mSC A kd m p q → q < 160
  | 0, p, q, h => by obtain ⟨rfl, h1, h2⟩ := h; exact h1
  | m + 1, p, q, h => by
    obtain ⟨h1, -, -, p', -, h2⟩ := h
    exact mSC.lt h2
def mSeekOn (σ : MW) (o q : Nat) : MW := sI (sI (sI (sA (sA σ 21 o 4) 24 o (mI σ 32)) 35 (mI σ 35 + 1)) 30 (nI (q + 1))) 31 0
set_option maxHeartbeats 4000000 in
set_option maxRecDepth 20000 in
theorem m_seek_loop {g : GE} {d : Nat} {w : GW} {σ : MW} {Q : Option Value → GW → Prop} (hd : 1 ≤ d) (hS : SK g w) {o q kd φ : Nat} (ha : ∀ j, j < 12 → mA σ 27 j = aTab j) (hφ : mI σ 32 = nI φ) (hφ2 : φ < 600) (hk1 : mA σ 16 φ = nI kd) (hkd : kd < 12) (K : ∀ ls, ls.lookup 2 = some (.int (nI q)) → ls.lookup 1 = some (.int (nI o)) → ls.lookup 0 = some (.ref (eB g + 70)) → gF g d mX10_seekCatch 71 ls [] (put g σ w) Q) : ∀ m i p : Nat, i + m ≤ 3 → mSC (mA σ) kd m p q → gF g d mX10_seekCatch 21 [(3, .int (nI i)), (2, .int (nI p)), (1, .int (nI o)), (0, .ref (eB g + 70))] [] (put g σ w) Q
  | 0, i, p, hi, h => by
    obtain ⟨rfl, hp, h3⟩ := h
    by_cases hi4 : i = 3
    · subst hi4
      refine g_iload_n dX10_seekCatch_21 rfl ?_
      refine g_iconstV (v := 3) dX10_seekCatch_22 (by decide) ?_
      refine g_icmp_ge 71 dX10_seekCatch_23 (by decide) (fun _ => ?_) (fun q => absurd (by decide) q)
      exact K _ rfl rfl rfl
    · have hi4 : ¬ (3 : Int32) ≤ nI i := nI_ge (b := 3) (by omega) (by decide)
      rcases h3 with h3 | ⟨h3, h4⟩
      · refine g_iload_n dX10_seekCatch_21 rfl ?_
        refine g_iconstV (v := 3) dX10_seekCatch_22 (by decide) ?_
        refine g_icmp_ge 71 dX10_seekCatch_23 (by decide) (fun q => absurd q (hi4)) (fun _ => ?_)
        refine g_aload_n dX10_seekCatch_26 rfl ?_
        refine mg_getA 0 0 dX10_seekCatch_27 fX10_7 rfl rt_0 hS ?_
        refine g_iload_n dX10_seekCatch_30 rfl ?_
        refine mg_iald dX10_seekCatch_31 (by first | exact rfl | assumption) rfl rfl (by omega) hS ?_
        refine g_iconstV (v := 2) dX10_seekCatch_32 (by decide) ?_
        refine g_icmp_ne 71 dX10_seekCatch_33 (by decide) (fun _ => ?_) (fun q => absurd q (h3))
        exact K _ rfl rfl rfl
      · refine g_iload_n dX10_seekCatch_21 rfl ?_
        refine g_iconstV (v := 3) dX10_seekCatch_22 (by decide) ?_
        refine g_icmp_ge 71 dX10_seekCatch_23 (by decide) (fun q => absurd q (hi4)) (fun _ => ?_)
        refine g_aload_n dX10_seekCatch_26 rfl ?_
        refine mg_getA 0 0 dX10_seekCatch_27 fX10_7 rfl rt_0 hS ?_
        refine g_iload_n dX10_seekCatch_30 rfl ?_
        refine mg_iald dX10_seekCatch_31 (by first | exact rfl | assumption) rfl rfl (by omega) hS ?_
        refine g_iconstV (v := 2) dX10_seekCatch_32 (by decide) ?_
        refine g_icmp_ne 71 dX10_seekCatch_33 (by decide) (fun q => absurd (h3) q) (fun _ => ?_)
        refine g_aload_n dX10_seekCatch_36 rfl ?_
        refine g_aload_n dX10_seekCatch_37 rfl ?_
        refine mg_getA 17 16 dX10_seekCatch_38 fX10_60 rfl rt_16 hS ?_
        refine g_aload_n dX10_seekCatch_41 rfl ?_
        refine mg_getI 32 dX10_seekCatch_42 fX10_135 rfl (by decide) hS ?_
        refine mg_iald dX10_seekCatch_45 hφ rfl rfl (by omega) hS ?_
        rw [hk1]
        refine g_aload_n dX10_seekCatch_46 rfl ?_
        refine mg_getA 1 1 dX10_seekCatch_47 fX10_13 rfl rt_1 hS ?_
        refine g_iload_n dX10_seekCatch_50 rfl ?_
        refine mg_iald dX10_seekCatch_51 (by first | exact rfl | assumption) rfl rfl (by omega) hS ?_
        refine g_callV (d1 := d - 1) (As := [_, _]) 9 dX10_seekCatch_52 vX10_169 (by omega) (mg_ob hS) rfl rfl (Nat.le_of_ble_eq_true rfl) ?_
        refine m_isUnder hS ha hkd ?_
        refine g_if_ne 71 dX10_seekCatch_55 (by decide) (fun _ => ?_) (fun q => absurd q (by rw [h4]; decide))
        exact K _ rfl rfl rfl
  | m + 1, i, p, hi, h => by
    obtain ⟨hp, h2, h0, p', e', h'⟩ := h
    have hi4 : ¬ (3 : Int32) ≤ nI i := nI_ge (b := 3) (by omega) (by decide)
    refine g_iload_n dX10_seekCatch_21 rfl ?_
    refine g_iconstV (v := 3) dX10_seekCatch_22 (by decide) ?_
    refine g_icmp_ge 71 dX10_seekCatch_23 (by decide) (fun q => absurd q (hi4)) (fun _ => ?_)
    refine g_aload_n dX10_seekCatch_26 rfl ?_
    refine mg_getA 0 0 dX10_seekCatch_27 fX10_7 rfl rt_0 hS ?_
    refine g_iload_n dX10_seekCatch_30 rfl ?_
    refine mg_iald dX10_seekCatch_31 (by first | exact rfl | assumption) rfl rfl (by omega) hS ?_
    refine g_iconstV (v := 2) dX10_seekCatch_32 (by decide) ?_
    refine g_icmp_ne 71 dX10_seekCatch_33 (by decide) (fun q => absurd (h2) q) (fun _ => ?_)
    refine g_aload_n dX10_seekCatch_36 rfl ?_
    refine g_aload_n dX10_seekCatch_37 rfl ?_
    refine mg_getA 17 16 dX10_seekCatch_38 fX10_60 rfl rt_16 hS ?_
    refine g_aload_n dX10_seekCatch_41 rfl ?_
    refine mg_getI 32 dX10_seekCatch_42 fX10_135 rfl (by decide) hS ?_
    refine mg_iald dX10_seekCatch_45 hφ rfl rfl (by omega) hS ?_
    rw [hk1]
    refine g_aload_n dX10_seekCatch_46 rfl ?_
    refine mg_getA 1 1 dX10_seekCatch_47 fX10_13 rfl rt_1 hS ?_
    refine g_iload_n dX10_seekCatch_50 rfl ?_
    refine mg_iald dX10_seekCatch_51 (by first | exact rfl | assumption) rfl rfl (by omega) hS ?_
    refine g_callV (d1 := d - 1) (As := [_, _]) 9 dX10_seekCatch_52 vX10_169 (by omega) (mg_ob hS) rfl rfl (Nat.le_of_ble_eq_true rfl) ?_
    refine m_isUnder hS ha hkd ?_
    refine g_if_ne 71 dX10_seekCatch_55 (by decide) (fun q => absurd (h0) q) (fun _ => ?_)
    refine g_aload_n dX10_seekCatch_58 rfl ?_
    refine mg_getA 5 5 dX10_seekCatch_59 fX10_25 rfl rt_5 hS ?_
    refine g_iload_n dX10_seekCatch_62 rfl ?_
    refine mg_iald dX10_seekCatch_63 (by first | exact rfl | assumption) rfl rfl (by omega) hS ?_
    rw [e']
    refine g_istore_n (lz := [(2, .int (nI p')), (3, .int (nI i)), (1, .int (nI o)), (0, .ref (eB g + 70))]) dX10_seekCatch_64 (by decide) rfl ?_
    refine g_iinc (lz := [(3, .int (nI (i + 1))), (2, .int (nI p')), (1, .int (nI o)), (0, .ref (eB g + 70))]) dX10_seekCatch_65 rfl (by decide) (by rw [show nI i + Int32.ofInt 1 = nI (i + 1) from nI_1 i]; rfl) ?_
    refine g_goto 21 dX10_seekCatch_68 (by decide) ?_
    exact m_seek_loop hd hS ha hφ hφ2 hk1 hkd K m (i + 1) p' (by omega) h'
set_option maxHeartbeats 4000000 in
set_option maxRecDepth 20000 in
theorem m_seekOn {g : GE} {d : Nat} {w : GW} {σ : MW} {Q : Option Value → GW → Prop} (hd : 1 ≤ d) (hS : SK g w) {o p p1 q m kd φ : Nat} (ho : mI σ 29 = nI (o + 1)) (ho2 : o < 60) (hp : mA σ 22 o = nI p) (hp2 : p < 160) (hp1 : mA σ 5 p = nI p1) (ha : ∀ j, j < 12 → mA σ 27 j = aTab j) (hφ : mI σ 32 = nI φ) (hφ2 : φ < 600) (hk1 : mA σ 16 φ = nI kd) (hkd : kd < 12) (hm : m ≤ 3) (hq : mSC (mA σ) kd m p1 q) (hq3 : mA σ 0 q = 2) (k : Q none (put g (mSeekOn σ o q) w)) : gM g d mX10_seekCatch [.ref (eB g + 70)] (put g σ w) Q := by
  refine gM.of (by decide) (Nat.le_of_ble_eq_true rfl) ?_
  have eo : mI σ 29 - 1 = nI o := by rw [ho]; exact nI_pred o
  have hq2 := hq.lt
  have e1 : nI q + 1 = nI (q + 1) := nI_1 q
  refine g_aload_n dX10_seekCatch_0 rfl ?_
  refine mg_getI 29 dX10_seekCatch_1 fX10_156 rfl (by decide) hS ?_
  refine g_iconstV (v := 1) dX10_seekCatch_4 (by decide) ?_
  refine g_isub dX10_seekCatch_5 ?_
  rw [eo]
  refine g_istore_n dX10_seekCatch_6 (by decide) rfl ?_
  refine g_aload_n dX10_seekCatch_7 rfl ?_
  refine mg_getA 5 5 dX10_seekCatch_8 fX10_25 rfl rt_5 hS ?_
  refine g_aload_n dX10_seekCatch_11 rfl ?_
  refine mg_getA 25 22 dX10_seekCatch_12 fX10_82 rfl rt_22 hS ?_
  refine g_iload_n dX10_seekCatch_15 rfl ?_
  refine mg_iald dX10_seekCatch_16 rfl rfl rfl (by omega) hS ?_
  rw [hp]
  refine mg_iald dX10_seekCatch_17 rfl rfl rfl (by omega) hS ?_
  rw [hp1]
  refine g_istore_n dX10_seekCatch_18 (by decide) rfl ?_
  refine g_iconstV (v := 0) dX10_seekCatch_19 (by decide) ?_
  refine g_istore_n dX10_seekCatch_20 (by decide) rfl ?_
  refine m_seek_loop hd hS ha hφ hφ2 hk1 hkd ?_ m 0 p1 (by omega) hq
  intro ls h2 h1 h0
  refine g_aload_n dX10_seekCatch_71 h0 ?_
  refine mg_getA 0 0 dX10_seekCatch_72 fX10_7 rfl rt_0 hS ?_
  refine g_iload_n dX10_seekCatch_75 h2 ?_
  refine mg_iald dX10_seekCatch_76 (by first | exact rfl | assumption) rfl rfl (by omega) hS ?_
  refine g_iconstV (v := 2) dX10_seekCatch_77 (by decide) ?_
  refine g_icmp_eq 86 dX10_seekCatch_78 (by decide) (fun _ => ?_) (fun q => absurd (hq3) q)
  refine g_aload_n dX10_seekCatch_86 h0 ?_
  refine mg_getA 24 21 dX10_seekCatch_87 fX10_79 rfl rt_21 hS ?_
  refine g_iload_n dX10_seekCatch_90 h1 ?_
  refine g_iconstV (v := 4) dX10_seekCatch_91 (by decide) ?_
  refine mg_iast dX10_seekCatch_92 (by first | exact rfl | assumption) rfl rfl (by omega) hS ?_
  refine g_aload_n dX10_seekCatch_93 h0 ?_
  refine mg_getA 27 24 dX10_seekCatch_94 fX10_88 rfl rt_24 hS ?_
  refine g_iload_n dX10_seekCatch_97 h1 ?_
  refine g_aload_n dX10_seekCatch_98 h0 ?_
  refine mg_getI 32 dX10_seekCatch_99 fX10_135 rfl (by decide) hS ?_
  refine mg_iast dX10_seekCatch_102 (by first | exact rfl | assumption) rfl rfl (by omega) hS ?_
  refine g_aload_n dX10_seekCatch_103 h0 ?_
  refine g_dup dX10_seekCatch_104 rfl ?_
  refine mg_getI 35 dX10_seekCatch_105 fX10_175 rfl (by decide) hS ?_
  refine g_iconstV (v := 1) dX10_seekCatch_108 (by decide) ?_
  refine g_iadd dX10_seekCatch_109 ?_
  refine mg_putI 35 dX10_seekCatch_110 fX10_175 rfl (by decide) hS ?_
  refine g_aload_n dX10_seekCatch_113 h0 ?_
  refine g_iload_n dX10_seekCatch_114 h2 ?_
  refine g_iconstV (v := 1) dX10_seekCatch_115 (by decide) ?_
  refine g_iadd dX10_seekCatch_116 ?_
  refine mg_putI 30 dX10_seekCatch_117 fX10_141 rfl (by decide) hS ?_
  refine g_aload_n dX10_seekCatch_120 h0 ?_
  refine g_iconstV (v := 0) dX10_seekCatch_121 (by decide) ?_
  refine mg_putI 31 dX10_seekCatch_122 fX10_138 rfl (by decide) hS ?_
  refine g_vret dX10_seekCatch_125 rfl ?_
  exact e1 ▸ k
set_option maxHeartbeats 4000000 in
set_option maxRecDepth 20000 in
theorem m_seekOff {g : GE} {d : Nat} {w : GW} {σ : MW} {Q : Option Value → GW → Prop} (hd : 1 ≤ d) (hS : SK g w) {o p p1 q m kd φ : Nat} (ho : mI σ 29 = nI (o + 1)) (ho2 : o < 60) (hp : mA σ 22 o = nI p) (hp2 : p < 160) (hp1 : mA σ 5 p = nI p1) (ha : ∀ j, j < 12 → mA σ 27 j = aTab j) (hφ : mI σ 32 = nI φ) (hφ2 : φ < 600) (hk1 : mA σ 16 φ = nI kd) (hkd : kd < 12) (hm : m ≤ 3) (hq : mSC (mA σ) kd m p1 q) (hq3 : ¬ mA σ 0 q = 2) (k : gM g (d - 1) mX10_lastPart [.ref (eB g + 70)] (put g σ w) (fun r w1 => r = none ∧ Q none w1)) : gM g d mX10_seekCatch [.ref (eB g + 70)] (put g σ w) Q := by
  refine gM.of (by decide) (Nat.le_of_ble_eq_true rfl) ?_
  have eo : mI σ 29 - 1 = nI o := by rw [ho]; exact nI_pred o
  have hq2 := hq.lt
  refine g_aload_n dX10_seekCatch_0 rfl ?_
  refine mg_getI 29 dX10_seekCatch_1 fX10_156 rfl (by decide) hS ?_
  refine g_iconstV (v := 1) dX10_seekCatch_4 (by decide) ?_
  refine g_isub dX10_seekCatch_5 ?_
  rw [eo]
  refine g_istore_n dX10_seekCatch_6 (by decide) rfl ?_
  refine g_aload_n dX10_seekCatch_7 rfl ?_
  refine mg_getA 5 5 dX10_seekCatch_8 fX10_25 rfl rt_5 hS ?_
  refine g_aload_n dX10_seekCatch_11 rfl ?_
  refine mg_getA 25 22 dX10_seekCatch_12 fX10_82 rfl rt_22 hS ?_
  refine g_iload_n dX10_seekCatch_15 rfl ?_
  refine mg_iald dX10_seekCatch_16 rfl rfl rfl (by omega) hS ?_
  rw [hp]
  refine mg_iald dX10_seekCatch_17 rfl rfl rfl (by omega) hS ?_
  rw [hp1]
  refine g_istore_n dX10_seekCatch_18 (by decide) rfl ?_
  refine g_iconstV (v := 0) dX10_seekCatch_19 (by decide) ?_
  refine g_istore_n dX10_seekCatch_20 (by decide) rfl ?_
  refine m_seek_loop hd hS ha hφ hφ2 hk1 hkd ?_ m 0 p1 (by omega) hq
  intro ls h2 h1 h0
  refine g_aload_n dX10_seekCatch_71 h0 ?_
  refine mg_getA 0 0 dX10_seekCatch_72 fX10_7 rfl rt_0 hS ?_
  refine g_iload_n dX10_seekCatch_75 h2 ?_
  refine mg_iald dX10_seekCatch_76 (by first | exact rfl | assumption) rfl rfl (by omega) hS ?_
  refine g_iconstV (v := 2) dX10_seekCatch_77 (by decide) ?_
  refine g_icmp_eq 86 dX10_seekCatch_78 (by decide) (fun q => absurd q (hq3)) (fun _ => ?_)
  refine g_aload_n dX10_seekCatch_81 h0 ?_
  refine g_callV (d1 := d - 1) (As := []) 9 dX10_seekCatch_82 vX10_172 (by omega) (mg_ob hS) rfl rfl (Nat.le_of_ble_eq_true rfl) ?_
  refine gM.imp k (fun r w1 _ _ hq => ?_)
  obtain ⟨rfl, hq⟩ := hq
  refine g_vret dX10_seekCatch_85 rfl ?_
  exact hq
set_option maxHeartbeats 4000000 in
set_option maxRecDepth 20000 in
theorem m_endRound {g : GE} {d : Nat} {w : GW} {σ : MW} {Q : Option Value → GW → Prop} (hd : 1 ≤ d) (hS : SK g w) {o : Nat} (ho : mI σ 29 = nI (o + 1)) (ho2 : o < 60) (hk : mA σ 21 o = 1) (k : gM g (d - 1) mX10_round [.ref (eB g + 70)] (put g σ w) (fun r w1 => r = none ∧ Q none w1)) : gM g d mX10_endPart [.ref (eB g + 70)] (put g σ w) Q := by
  refine gM.of (by decide) (Nat.le_of_ble_eq_true rfl) ?_
  have eo : mI σ 29 - 1 = nI o := by rw [ho]; exact nI_pred o
  refine g_aload_n dX10_endPart_0 rfl ?_
  refine mg_getI 29 dX10_endPart_1 fX10_156 rfl (by decide) hS ?_
  refine g_iconstV (v := 1) dX10_endPart_4 (by decide) ?_
  refine g_isub dX10_endPart_5 ?_
  rw [eo]
  refine g_istore_n dX10_endPart_6 (by decide) rfl ?_
  refine g_aload_n dX10_endPart_7 rfl ?_
  refine mg_getA 24 21 dX10_endPart_8 fX10_79 rfl rt_21 hS ?_
  refine g_iload_n dX10_endPart_11 rfl ?_
  refine mg_iald dX10_endPart_12 (by first | exact rfl | assumption) rfl rfl (by omega) hS ?_
  refine g_tableIn (off := 35) 48 dX10_endPart_13 (by rw [hk]; decide) (by rw [hk]; decide) (by rw [hk]; rfl) (by decide) ?_
  refine g_aload_n dX10_endPart_48 rfl ?_
  refine g_callV (d1 := d - 1) (As := []) 9 dX10_endPart_49 vX10_195 (by omega) (mg_ob hS) rfl rfl (Nat.le_of_ble_eq_true rfl) ?_
  refine gM.imp k (fun r w1 _ _ hq => ?_)
  obtain ⟨rfl, hq⟩ := hq
  refine g_goto 132 dX10_endPart_52 (by decide) ?_
  refine g_vret dX10_endPart_132 rfl ?_
  exact hq
def mEndIf (σ : MW) (o p : Nat) : MW := sI (sI σ 29 (nI o)) 30 (nI (p + 1))
set_option maxHeartbeats 4000000 in
set_option maxRecDepth 20000 in
theorem m_endIf {g : GE} {d : Nat} {w : GW} {σ : MW} {Q : Option Value → GW → Prop} (hS : SK g w) {o : Nat} (ho : mI σ 29 = nI (o + 1)) (ho2 : o < 60) {p : Nat} (hk : mA σ 21 o = 2) (hp : mI σ 30 = nI p) (k : Q none (put g (mEndIf σ o p) w)) : gM g d mX10_endPart [.ref (eB g + 70)] (put g σ w) Q := by
  refine gM.of (by decide) (Nat.le_of_ble_eq_true rfl) ?_
  have eo : mI σ 29 - 1 = nI o := by rw [ho]; exact nI_pred o
  have e1 : mI σ 30 + 1 = nI (p + 1) := by rw [hp]; exact nI_1 p
  refine g_aload_n dX10_endPart_0 rfl ?_
  refine mg_getI 29 dX10_endPart_1 fX10_156 rfl (by decide) hS ?_
  refine g_iconstV (v := 1) dX10_endPart_4 (by decide) ?_
  refine g_isub dX10_endPart_5 ?_
  rw [eo]
  refine g_istore_n dX10_endPart_6 (by decide) rfl ?_
  refine g_aload_n dX10_endPart_7 rfl ?_
  refine mg_getA 24 21 dX10_endPart_8 fX10_79 rfl rt_21 hS ?_
  refine g_iload_n dX10_endPart_11 rfl ?_
  refine mg_iald dX10_endPart_12 (by first | exact rfl | assumption) rfl rfl (by omega) hS ?_
  refine g_tableIn (off := 42) 55 dX10_endPart_13 (by rw [hk]; decide) (by rw [hk]; decide) (by rw [hk]; rfl) (by decide) ?_
  refine g_aload_n dX10_endPart_55 rfl ?_
  refine g_dup dX10_endPart_56 rfl ?_
  refine mg_getI 29 dX10_endPart_57 fX10_156 rfl (by decide) hS ?_
  refine g_iconstV (v := 1) dX10_endPart_60 (by decide) ?_
  refine g_isub dX10_endPart_61 ?_
  rw [show mI (σ) 29 - 1 = nI o from eo]
  refine mg_putI 29 dX10_endPart_62 fX10_156 rfl (by decide) hS ?_
  refine g_aload_n dX10_endPart_65 rfl ?_
  refine g_dup dX10_endPart_66 rfl ?_
  refine mg_getI 30 dX10_endPart_67 fX10_141 rfl (by decide) hS ?_
  refine g_iconstV (v := 1) dX10_endPart_70 (by decide) ?_
  refine g_iadd dX10_endPart_71 ?_
  refine mg_putI 30 dX10_endPart_72 fX10_141 rfl (by decide) hS ?_
  refine g_goto 132 dX10_endPart_75 (by decide) ?_
  refine g_vret dX10_endPart_132 rfl ?_
  exact e1 ▸ k
def mEndLast (σ : MW) (o e : Nat) : MW := sI (sI (sI (sI σ 31 (mA σ 25 o)) 32 (mA σ 24 o)) 30 (nI (e + 1))) 29 (nI o)
set_option maxHeartbeats 4000000 in
set_option maxRecDepth 20000 in
theorem m_endLast {g : GE} {d : Nat} {w : GW} {σ : MW} {Q : Option Value → GW → Prop} (hS : SK g w) {o : Nat} (ho : mI σ 29 = nI (o + 1)) (ho2 : o < 60) {p e : Nat} (hk : mA σ 21 o = 5) (hp : mA σ 22 o = nI p) (hp2 : p < 160) (he : mA σ 4 p = nI e) (k : Q none (put g (mEndLast σ o e) w)) : gM g d mX10_endPart [.ref (eB g + 70)] (put g σ w) Q := by
  refine gM.of (by decide) (Nat.le_of_ble_eq_true rfl) ?_
  have eo : mI σ 29 - 1 = nI o := by rw [ho]; exact nI_pred o
  have e1 : mA σ 4 p + 1 = nI (e + 1) := by rw [he]; exact nI_1 e
  refine g_aload_n dX10_endPart_0 rfl ?_
  refine mg_getI 29 dX10_endPart_1 fX10_156 rfl (by decide) hS ?_
  refine g_iconstV (v := 1) dX10_endPart_4 (by decide) ?_
  refine g_isub dX10_endPart_5 ?_
  rw [eo]
  refine g_istore_n dX10_endPart_6 (by decide) rfl ?_
  refine g_aload_n dX10_endPart_7 rfl ?_
  refine mg_getA 24 21 dX10_endPart_8 fX10_79 rfl rt_21 hS ?_
  refine g_iload_n dX10_endPart_11 rfl ?_
  refine mg_iald dX10_endPart_12 (by first | exact rfl | assumption) rfl rfl (by omega) hS ?_
  refine g_tableIn (off := 65) 78 dX10_endPart_13 (by rw [hk]; decide) (by rw [hk]; decide) (by rw [hk]; rfl) (by decide) ?_
  refine g_aload_n dX10_endPart_78 rfl ?_
  refine g_aload_n dX10_endPart_79 rfl ?_
  refine mg_getA 28 25 dX10_endPart_80 fX10_91 rfl rt_25 hS ?_
  refine g_iload_n dX10_endPart_83 rfl ?_
  refine mg_iald dX10_endPart_84 (by first | exact rfl | assumption) rfl rfl (by omega) hS ?_
  refine mg_putI 31 dX10_endPart_85 fX10_138 rfl (by decide) hS ?_
  refine g_aload_n dX10_endPart_88 rfl ?_
  refine g_aload_n dX10_endPart_89 rfl ?_
  refine mg_getA 27 24 dX10_endPart_90 fX10_88 rfl rt_24 hS ?_
  refine g_iload_n dX10_endPart_93 rfl ?_
  refine mg_iald dX10_endPart_94 (by first | exact rfl | assumption) rfl rfl (by omega) hS ?_
  refine mg_putI 32 dX10_endPart_95 fX10_135 rfl (by decide) hS ?_
  refine g_aload_n dX10_endPart_98 rfl ?_
  refine g_aload_n dX10_endPart_99 rfl ?_
  refine mg_getA 4 4 dX10_endPart_100 fX10_22 rfl rt_4 hS ?_
  refine g_aload_n dX10_endPart_103 rfl ?_
  refine mg_getA 25 22 dX10_endPart_104 fX10_82 rfl rt_22 hS ?_
  refine g_iload_n dX10_endPart_107 rfl ?_
  refine mg_iald dX10_endPart_108 rfl rfl rfl (by omega) hS ?_
  rw [show mA (sI (sI σ 31 (mA σ 25 o)) 32 (mA (sI σ 31 (mA σ 25 o)) 24 o)) 22 o = nI p from hp]
  refine mg_iald dX10_endPart_109 rfl rfl rfl (by omega) hS ?_
  refine g_iconstV (v := 1) dX10_endPart_110 (by decide) ?_
  refine g_iadd dX10_endPart_111 ?_
  rw [show mA (sI (sI σ 31 (mA σ 25 o)) 32 (mA (sI σ 31 (mA σ 25 o)) 24 o)) 4 p + 1 = nI (e + 1) from e1]
  refine mg_putI 30 dX10_endPart_112 fX10_141 rfl (by decide) hS ?_
  refine g_aload_n dX10_endPart_115 rfl ?_
  refine g_dup dX10_endPart_116 rfl ?_
  refine mg_getI 29 dX10_endPart_117 fX10_156 rfl (by decide) hS ?_
  refine g_iconstV (v := 1) dX10_endPart_120 (by decide) ?_
  refine g_isub dX10_endPart_121 ?_
  rw [show mI (sI (sI (sI σ 31 (mA σ 25 o)) 32 (mA (sI σ 31 (mA σ 25 o)) 24 o)) 30 (nI (e + 1))) 29 - 1 = nI o from eo]
  refine mg_putI 29 dX10_endPart_122 fX10_156 rfl (by decide) hS ?_
  refine g_goto 132 dX10_endPart_125 (by decide) ?_
  refine g_vret dX10_endPart_132 rfl ?_
  exact k
set_option maxHeartbeats 4000000 in
set_option maxRecDepth 20000 in
theorem m_endTry3 {g : GE} {d : Nat} {w : GW} {σ : MW} {Q : Option Value → GW → Prop} (hd : 1 ≤ d) (hS : SK g w) {o : Nat} (ho : mI σ 29 = nI (o + 1)) (ho2 : o < 60) (hk : mA σ 21 o = 3) (k : gM g (d - 1) mX10_lastPart [.ref (eB g + 70)] (put g σ w) (fun r w1 => r = none ∧ Q none w1)) : gM g d mX10_endPart [.ref (eB g + 70)] (put g σ w) Q := by
  refine gM.of (by decide) (Nat.le_of_ble_eq_true rfl) ?_
  have eo : mI σ 29 - 1 = nI o := by rw [ho]; exact nI_pred o
  refine g_aload_n dX10_endPart_0 rfl ?_
  refine mg_getI 29 dX10_endPart_1 fX10_156 rfl (by decide) hS ?_
  refine g_iconstV (v := 1) dX10_endPart_4 (by decide) ?_
  refine g_isub dX10_endPart_5 ?_
  rw [eo]
  refine g_istore_n dX10_endPart_6 (by decide) rfl ?_
  refine g_aload_n dX10_endPart_7 rfl ?_
  refine mg_getA 24 21 dX10_endPart_8 fX10_79 rfl rt_21 hS ?_
  refine g_iload_n dX10_endPart_11 rfl ?_
  refine mg_iald dX10_endPart_12 (by first | exact rfl | assumption) rfl rfl (by omega) hS ?_
  refine g_tableIn (off := 115) 128 dX10_endPart_13 (by rw [hk]; decide) (by rw [hk]; decide) (by rw [hk]; rfl) (by decide) ?_
  refine g_aload_n dX10_endPart_128 rfl ?_
  refine g_callV (d1 := d - 1) (As := []) 9 dX10_endPart_129 vX10_172 (by omega) (mg_ob hS) rfl rfl (Nat.le_of_ble_eq_true rfl) ?_
  refine gM.imp k (fun r w1 _ _ hq => ?_)
  obtain ⟨rfl, hq⟩ := hq
  refine g_vret dX10_endPart_132 rfl ?_
  exact hq
set_option maxHeartbeats 4000000 in
set_option maxRecDepth 20000 in
theorem m_endTry4 {g : GE} {d : Nat} {w : GW} {σ : MW} {Q : Option Value → GW → Prop} (hd : 1 ≤ d) (hS : SK g w) {o : Nat} (ho : mI σ 29 = nI (o + 1)) (ho2 : o < 60) (hk : mA σ 21 o = 4) (k : gM g (d - 1) mX10_lastPart [.ref (eB g + 70)] (put g σ w) (fun r w1 => r = none ∧ Q none w1)) : gM g d mX10_endPart [.ref (eB g + 70)] (put g σ w) Q := by
  refine gM.of (by decide) (Nat.le_of_ble_eq_true rfl) ?_
  have eo : mI σ 29 - 1 = nI o := by rw [ho]; exact nI_pred o
  refine g_aload_n dX10_endPart_0 rfl ?_
  refine mg_getI 29 dX10_endPart_1 fX10_156 rfl (by decide) hS ?_
  refine g_iconstV (v := 1) dX10_endPart_4 (by decide) ?_
  refine g_isub dX10_endPart_5 ?_
  rw [eo]
  refine g_istore_n dX10_endPart_6 (by decide) rfl ?_
  refine g_aload_n dX10_endPart_7 rfl ?_
  refine mg_getA 24 21 dX10_endPart_8 fX10_79 rfl rt_21 hS ?_
  refine g_iload_n dX10_endPart_11 rfl ?_
  refine mg_iald dX10_endPart_12 (by first | exact rfl | assumption) rfl rfl (by omega) hS ?_
  refine g_tableIn (off := 115) 128 dX10_endPart_13 (by rw [hk]; decide) (by rw [hk]; decide) (by rw [hk]; rfl) (by decide) ?_
  refine g_aload_n dX10_endPart_128 rfl ?_
  refine g_callV (d1 := d - 1) (As := []) 9 dX10_endPart_129 vX10_172 (by omega) (mg_ob hS) rfl rfl (Nat.le_of_ble_eq_true rfl) ?_
  refine gM.imp k (fun r w1 _ _ hq => ?_)
  obtain ⟨rfl, hq⟩ := hq
  refine g_vret dX10_endPart_132 rfl ?_
  exact hq
set_option maxHeartbeats 4000000 in
set_option maxRecDepth 20000 in
theorem m_leaveRet {g : GE} {d : Nat} {w : GW} {σ : MW} {Q : Option Value → GW → Prop} (hd : 1 ≤ d) (hS : SK g w) {o : Nat} (ho : mI σ 29 = nI (o + 1)) (ho2 : o < 60) (hk : mA σ 21 o = 0) (hw : mI σ 31 = 2) (k : Q none (put g (mOver σ o) w)) : gM g d mX10_leave [.ref (eB g + 70)] (put g σ w) Q := by
  refine gM.of (by decide) (Nat.le_of_ble_eq_true rfl) ?_
  have eo : mI σ 29 - 1 = nI o := by rw [ho]; exact nI_pred o
  refine g_aload_n dX10_leave_0 rfl ?_
  refine mg_getI 29 dX10_leave_1 fX10_156 rfl (by decide) hS ?_
  refine g_iconstV (v := 1) dX10_leave_4 (by decide) ?_
  refine g_isub dX10_leave_5 ?_
  rw [eo]
  refine g_istore_n dX10_leave_6 (by decide) rfl ?_
  refine g_aload_n dX10_leave_7 rfl ?_
  refine mg_getA 24 21 dX10_leave_8 fX10_79 rfl rt_21 hS ?_
  refine g_iload_n dX10_leave_11 rfl ?_
  refine mg_iald dX10_leave_12 (by first | exact rfl | assumption) rfl rfl (by omega) hS ?_
  refine g_tableIn (off := 35) 48 dX10_leave_13 (by rw [hk]; decide) (by rw [hk]; decide) (by rw [hk]; rfl) (by decide) ?_
  refine g_aload_n dX10_leave_48 rfl ?_
  refine mg_getI 31 dX10_leave_49 fX10_138 rfl (by decide) hS ?_
  refine g_iconstV (v := 2) dX10_leave_52 (by decide) ?_
  refine g_icmp_ne 63 dX10_leave_53 (by decide) (fun q => absurd (hw) q) (fun _ => ?_)
  refine g_aload_n dX10_leave_56 rfl ?_
  refine g_callV (d1 := d - 1) (As := []) 9 dX10_leave_57 vX10_178 (by omega) (mg_ob hS) rfl rfl (Nat.le_of_ble_eq_true rfl) ?_
  refine m_over hS ho (by omega) ?_
  refine g_goto 168 dX10_leave_60 (by decide) ?_
  refine g_vret dX10_leave_168 rfl ?_
  exact k
def mLeaveR (σ : MW) (o : Nat) : MW := sI (sI σ 29 (nI o)) 33 (mI σ 33 - 1)
set_option maxHeartbeats 4000000 in
set_option maxRecDepth 20000 in
theorem m_leaveRt {g : GE} {d : Nat} {w : GW} {σ : MW} {Q : Option Value → GW → Prop} (hS : SK g w) {o : Nat} (ho : mI σ 29 = nI (o + 1)) (ho2 : o < 60) (hk : mA σ 21 o = 0) (hw : ¬ mI σ 31 = 2) (k : Q none (put g (mLeaveR σ o) w)) : gM g d mX10_leave [.ref (eB g + 70)] (put g σ w) Q := by
  refine gM.of (by decide) (Nat.le_of_ble_eq_true rfl) ?_
  have eo : mI σ 29 - 1 = nI o := by rw [ho]; exact nI_pred o
  refine g_aload_n dX10_leave_0 rfl ?_
  refine mg_getI 29 dX10_leave_1 fX10_156 rfl (by decide) hS ?_
  refine g_iconstV (v := 1) dX10_leave_4 (by decide) ?_
  refine g_isub dX10_leave_5 ?_
  rw [eo]
  refine g_istore_n dX10_leave_6 (by decide) rfl ?_
  refine g_aload_n dX10_leave_7 rfl ?_
  refine mg_getA 24 21 dX10_leave_8 fX10_79 rfl rt_21 hS ?_
  refine g_iload_n dX10_leave_11 rfl ?_
  refine mg_iald dX10_leave_12 (by first | exact rfl | assumption) rfl rfl (by omega) hS ?_
  refine g_tableIn (off := 35) 48 dX10_leave_13 (by rw [hk]; decide) (by rw [hk]; decide) (by rw [hk]; rfl) (by decide) ?_
  refine g_aload_n dX10_leave_48 rfl ?_
  refine mg_getI 31 dX10_leave_49 fX10_138 rfl (by decide) hS ?_
  refine g_iconstV (v := 2) dX10_leave_52 (by decide) ?_
  refine g_icmp_ne 63 dX10_leave_53 (by decide) (fun _ => ?_) (fun q => absurd q (hw))
  refine g_aload_n dX10_leave_63 rfl ?_
  refine g_dup dX10_leave_64 rfl ?_
  refine mg_getI 29 dX10_leave_65 fX10_156 rfl (by decide) hS ?_
  refine g_iconstV (v := 1) dX10_leave_68 (by decide) ?_
  refine g_isub dX10_leave_69 ?_
  rw [show mI (σ) 29 - 1 = nI o from eo]
  refine mg_putI 29 dX10_leave_70 fX10_156 rfl (by decide) hS ?_
  refine g_aload_n dX10_leave_73 rfl ?_
  refine g_dup dX10_leave_74 rfl ?_
  refine mg_getI 33 dX10_leave_75 fX10_163 rfl (by decide) hS ?_
  refine g_iconstV (v := 1) dX10_leave_78 (by decide) ?_
  refine g_isub dX10_leave_79 ?_
  refine mg_putI 33 dX10_leave_80 fX10_163 rfl (by decide) hS ?_
  refine g_goto 168 dX10_leave_83 (by decide) ?_
  refine g_vret dX10_leave_168 rfl ?_
  exact k
def mLeaveL (σ : MW) (o e : Nat) : MW := sI (sI (sI σ 29 (nI o)) 31 0) 30 (nI (e + 1))
set_option maxHeartbeats 4000000 in
set_option maxRecDepth 20000 in
theorem m_leaveLoop {g : GE} {d : Nat} {w : GW} {σ : MW} {Q : Option Value → GW → Prop} (hS : SK g w) {o : Nat} (ho : mI σ 29 = nI (o + 1)) (ho2 : o < 60) {p e : Nat} (hk : mA σ 21 o = 1) (hw : mI σ 31 = 1) (hp : mA σ 22 o = nI p) (hp2 : p < 160) (he : mA σ 4 p = nI e) (k : Q none (put g (mLeaveL σ o e) w)) : gM g d mX10_leave [.ref (eB g + 70)] (put g σ w) Q := by
  refine gM.of (by decide) (Nat.le_of_ble_eq_true rfl) ?_
  have eo : mI σ 29 - 1 = nI o := by rw [ho]; exact nI_pred o
  have e1 : mA σ 4 p + 1 = nI (e + 1) := by rw [he]; exact nI_1 e
  refine g_aload_n dX10_leave_0 rfl ?_
  refine mg_getI 29 dX10_leave_1 fX10_156 rfl (by decide) hS ?_
  refine g_iconstV (v := 1) dX10_leave_4 (by decide) ?_
  refine g_isub dX10_leave_5 ?_
  rw [eo]
  refine g_istore_n dX10_leave_6 (by decide) rfl ?_
  refine g_aload_n dX10_leave_7 rfl ?_
  refine mg_getA 24 21 dX10_leave_8 fX10_79 rfl rt_21 hS ?_
  refine g_iload_n dX10_leave_11 rfl ?_
  refine mg_iald dX10_leave_12 (by first | exact rfl | assumption) rfl rfl (by omega) hS ?_
  refine g_tableIn (off := 73) 86 dX10_leave_13 (by rw [hk]; decide) (by rw [hk]; decide) (by rw [hk]; rfl) (by decide) ?_
  refine g_aload_n dX10_leave_86 rfl ?_
  refine g_dup dX10_leave_87 rfl ?_
  refine mg_getI 29 dX10_leave_88 fX10_156 rfl (by decide) hS ?_
  refine g_iconstV (v := 1) dX10_leave_91 (by decide) ?_
  refine g_isub dX10_leave_92 ?_
  rw [show mI (σ) 29 - 1 = nI o from eo]
  refine mg_putI 29 dX10_leave_93 fX10_156 rfl (by decide) hS ?_
  refine g_aload_n dX10_leave_96 rfl ?_
  refine mg_getI 31 dX10_leave_97 fX10_138 rfl (by decide) hS ?_
  refine g_iconstV (v := 1) dX10_leave_100 (by decide) ?_
  refine g_icmp_ne 168 dX10_leave_101 (by decide) (fun q => absurd (hw) q) (fun _ => ?_)
  refine g_aload_n dX10_leave_104 rfl ?_
  refine g_iconstV (v := 0) dX10_leave_105 (by decide) ?_
  refine mg_putI 31 dX10_leave_106 fX10_138 rfl (by decide) hS ?_
  refine g_aload_n dX10_leave_109 rfl ?_
  refine g_aload_n dX10_leave_110 rfl ?_
  refine mg_getA 4 4 dX10_leave_111 fX10_22 rfl rt_4 hS ?_
  refine g_aload_n dX10_leave_114 rfl ?_
  refine mg_getA 25 22 dX10_leave_115 fX10_82 rfl rt_22 hS ?_
  refine g_iload_n dX10_leave_118 rfl ?_
  refine mg_iald dX10_leave_119 rfl rfl rfl (by omega) hS ?_
  rw [show mA (sI (sI σ 29 (nI o)) 31 0) 22 o = nI p from hp]
  refine mg_iald dX10_leave_120 rfl rfl rfl (by omega) hS ?_
  refine g_iconstV (v := 1) dX10_leave_121 (by decide) ?_
  refine g_iadd dX10_leave_122 ?_
  rw [show mA (sI (sI σ 29 (nI o)) 31 0) 4 p + 1 = nI (e + 1) from e1]
  refine mg_putI 30 dX10_leave_123 fX10_141 rfl (by decide) hS ?_
  refine g_goto 168 dX10_leave_126 (by decide) ?_
  refine g_vret dX10_leave_168 rfl ?_
  exact k
set_option maxHeartbeats 4000000 in
set_option maxRecDepth 20000 in
theorem m_leaveRound {g : GE} {d : Nat} {w : GW} {σ : MW} {Q : Option Value → GW → Prop} (hS : SK g w) {o : Nat} (ho : mI σ 29 = nI (o + 1)) (ho2 : o < 60) (hk : mA σ 21 o = 1) (hw : ¬ mI σ 31 = 1) (k : Q none (put g (sI σ 29 (nI o)) w)) : gM g d mX10_leave [.ref (eB g + 70)] (put g σ w) Q := by
  refine gM.of (by decide) (Nat.le_of_ble_eq_true rfl) ?_
  have eo : mI σ 29 - 1 = nI o := by rw [ho]; exact nI_pred o
  refine g_aload_n dX10_leave_0 rfl ?_
  refine mg_getI 29 dX10_leave_1 fX10_156 rfl (by decide) hS ?_
  refine g_iconstV (v := 1) dX10_leave_4 (by decide) ?_
  refine g_isub dX10_leave_5 ?_
  rw [eo]
  refine g_istore_n dX10_leave_6 (by decide) rfl ?_
  refine g_aload_n dX10_leave_7 rfl ?_
  refine mg_getA 24 21 dX10_leave_8 fX10_79 rfl rt_21 hS ?_
  refine g_iload_n dX10_leave_11 rfl ?_
  refine mg_iald dX10_leave_12 (by first | exact rfl | assumption) rfl rfl (by omega) hS ?_
  refine g_tableIn (off := 73) 86 dX10_leave_13 (by rw [hk]; decide) (by rw [hk]; decide) (by rw [hk]; rfl) (by decide) ?_
  refine g_aload_n dX10_leave_86 rfl ?_
  refine g_dup dX10_leave_87 rfl ?_
  refine mg_getI 29 dX10_leave_88 fX10_156 rfl (by decide) hS ?_
  refine g_iconstV (v := 1) dX10_leave_91 (by decide) ?_
  refine g_isub dX10_leave_92 ?_
  rw [show mI (σ) 29 - 1 = nI o from eo]
  refine mg_putI 29 dX10_leave_93 fX10_156 rfl (by decide) hS ?_
  refine g_aload_n dX10_leave_96 rfl ?_
  refine mg_getI 31 dX10_leave_97 fX10_138 rfl (by decide) hS ?_
  refine g_iconstV (v := 1) dX10_leave_100 (by decide) ?_
  refine g_icmp_ne 168 dX10_leave_101 (by decide) (fun _ => ?_) (fun q => absurd q (hw))
  refine g_vret dX10_leave_168 rfl ?_
  exact k
set_option maxHeartbeats 4000000 in
set_option maxRecDepth 20000 in
theorem m_leaveIf {g : GE} {d : Nat} {w : GW} {σ : MW} {Q : Option Value → GW → Prop} (hS : SK g w) {o : Nat} (ho : mI σ 29 = nI (o + 1)) (ho2 : o < 60) (hk : mA σ 21 o = 2) (k : Q none (put g (sI σ 29 (nI o)) w)) : gM g d mX10_leave [.ref (eB g + 70)] (put g σ w) Q := by
  refine gM.of (by decide) (Nat.le_of_ble_eq_true rfl) ?_
  have eo : mI σ 29 - 1 = nI o := by rw [ho]; exact nI_pred o
  refine g_aload_n dX10_leave_0 rfl ?_
  refine mg_getI 29 dX10_leave_1 fX10_156 rfl (by decide) hS ?_
  refine g_iconstV (v := 1) dX10_leave_4 (by decide) ?_
  refine g_isub dX10_leave_5 ?_
  rw [eo]
  refine g_istore_n dX10_leave_6 (by decide) rfl ?_
  refine g_aload_n dX10_leave_7 rfl ?_
  refine mg_getA 24 21 dX10_leave_8 fX10_79 rfl rt_21 hS ?_
  refine g_iload_n dX10_leave_11 rfl ?_
  refine mg_iald dX10_leave_12 (by first | exact rfl | assumption) rfl rfl (by omega) hS ?_
  refine g_tableIn (off := 145) 158 dX10_leave_13 (by rw [hk]; decide) (by rw [hk]; decide) (by rw [hk]; rfl) (by decide) ?_
  refine g_aload_n dX10_leave_158 rfl ?_
  refine g_dup dX10_leave_159 rfl ?_
  refine mg_getI 29 dX10_leave_160 fX10_156 rfl (by decide) hS ?_
  refine g_iconstV (v := 1) dX10_leave_163 (by decide) ?_
  refine g_isub dX10_leave_164 ?_
  rw [show mI (σ) 29 - 1 = nI o from eo]
  refine mg_putI 29 dX10_leave_165 fX10_156 rfl (by decide) hS ?_
  refine g_vret dX10_leave_168 rfl ?_
  exact k
set_option maxHeartbeats 4000000 in
set_option maxRecDepth 20000 in
theorem m_leaveLast {g : GE} {d : Nat} {w : GW} {σ : MW} {Q : Option Value → GW → Prop} (hS : SK g w) {o : Nat} (ho : mI σ 29 = nI (o + 1)) (ho2 : o < 60) (hk : mA σ 21 o = 5) (k : Q none (put g (sI σ 29 (nI o)) w)) : gM g d mX10_leave [.ref (eB g + 70)] (put g σ w) Q := by
  refine gM.of (by decide) (Nat.le_of_ble_eq_true rfl) ?_
  have eo : mI σ 29 - 1 = nI o := by rw [ho]; exact nI_pred o
  refine g_aload_n dX10_leave_0 rfl ?_
  refine mg_getI 29 dX10_leave_1 fX10_156 rfl (by decide) hS ?_
  refine g_iconstV (v := 1) dX10_leave_4 (by decide) ?_
  refine g_isub dX10_leave_5 ?_
  rw [eo]
  refine g_istore_n dX10_leave_6 (by decide) rfl ?_
  refine g_aload_n dX10_leave_7 rfl ?_
  refine mg_getA 24 21 dX10_leave_8 fX10_79 rfl rt_21 hS ?_
  refine g_iload_n dX10_leave_11 rfl ?_
  refine mg_iald dX10_leave_12 (by first | exact rfl | assumption) rfl rfl (by omega) hS ?_
  refine g_tableOut 158 dX10_leave_13 (by rw [hk]; decide) (by decide) ?_
  refine g_aload_n dX10_leave_158 rfl ?_
  refine g_dup dX10_leave_159 rfl ?_
  refine mg_getI 29 dX10_leave_160 fX10_156 rfl (by decide) hS ?_
  refine g_iconstV (v := 1) dX10_leave_163 (by decide) ?_
  refine g_isub dX10_leave_164 ?_
  rw [show mI (σ) 29 - 1 = nI o from eo]
  refine mg_putI 29 dX10_leave_165 fX10_156 rfl (by decide) hS ?_
  refine g_vret dX10_leave_168 rfl ?_
  exact k
set_option maxHeartbeats 4000000 in
set_option maxRecDepth 20000 in
theorem m_leaveSeek {g : GE} {d : Nat} {w : GW} {σ : MW} {Q : Option Value → GW → Prop} (hd : 1 ≤ d) (hS : SK g w) {o : Nat} (ho : mI σ 29 = nI (o + 1)) (ho2 : o < 60) (hk : mA σ 21 o = 3) (hw : mI σ 31 = 3) (k : gM g (d - 1) mX10_seekCatch [.ref (eB g + 70)] (put g σ w) (fun r w1 => r = none ∧ Q none w1)) : gM g d mX10_leave [.ref (eB g + 70)] (put g σ w) Q := by
  refine gM.of (by decide) (Nat.le_of_ble_eq_true rfl) ?_
  have eo : mI σ 29 - 1 = nI o := by rw [ho]; exact nI_pred o
  refine g_aload_n dX10_leave_0 rfl ?_
  refine mg_getI 29 dX10_leave_1 fX10_156 rfl (by decide) hS ?_
  refine g_iconstV (v := 1) dX10_leave_4 (by decide) ?_
  refine g_isub dX10_leave_5 ?_
  rw [eo]
  refine g_istore_n dX10_leave_6 (by decide) rfl ?_
  refine g_aload_n dX10_leave_7 rfl ?_
  refine mg_getA 24 21 dX10_leave_8 fX10_79 rfl rt_21 hS ?_
  refine g_iload_n dX10_leave_11 rfl ?_
  refine mg_iald dX10_leave_12 (by first | exact rfl | assumption) rfl rfl (by omega) hS ?_
  refine g_tableIn (off := 116) 129 dX10_leave_13 (by rw [hk]; decide) (by rw [hk]; decide) (by rw [hk]; rfl) (by decide) ?_
  refine g_aload_n dX10_leave_129 rfl ?_
  refine mg_getI 31 dX10_leave_130 fX10_138 rfl (by decide) hS ?_
  refine g_iconstV (v := 3) dX10_leave_133 (by decide) ?_
  refine g_icmp_ne 144 dX10_leave_134 (by decide) (fun q => absurd (hw) q) (fun _ => ?_)
  refine g_aload_n dX10_leave_137 rfl ?_
  refine g_callV (d1 := d - 1) (As := []) 9 dX10_leave_138 vX10_181 (by omega) (mg_ob hS) rfl rfl (Nat.le_of_ble_eq_true rfl) ?_
  refine gM.imp k (fun r w1 _ _ hq => ?_)
  obtain ⟨rfl, hq⟩ := hq
  refine g_goto 168 dX10_leave_141 (by decide) ?_
  refine g_vret dX10_leave_168 rfl ?_
  exact hq
set_option maxHeartbeats 4000000 in
set_option maxRecDepth 20000 in
theorem m_leaveTry {g : GE} {d : Nat} {w : GW} {σ : MW} {Q : Option Value → GW → Prop} (hd : 1 ≤ d) (hS : SK g w) {o : Nat} (ho : mI σ 29 = nI (o + 1)) (ho2 : o < 60) (hk : mA σ 21 o = 3) (hw : ¬ mI σ 31 = 3) (k : gM g (d - 1) mX10_lastPart [.ref (eB g + 70)] (put g σ w) (fun r w1 => r = none ∧ Q none w1)) : gM g d mX10_leave [.ref (eB g + 70)] (put g σ w) Q := by
  refine gM.of (by decide) (Nat.le_of_ble_eq_true rfl) ?_
  have eo : mI σ 29 - 1 = nI o := by rw [ho]; exact nI_pred o
  refine g_aload_n dX10_leave_0 rfl ?_
  refine mg_getI 29 dX10_leave_1 fX10_156 rfl (by decide) hS ?_
  refine g_iconstV (v := 1) dX10_leave_4 (by decide) ?_
  refine g_isub dX10_leave_5 ?_
  rw [eo]
  refine g_istore_n dX10_leave_6 (by decide) rfl ?_
  refine g_aload_n dX10_leave_7 rfl ?_
  refine mg_getA 24 21 dX10_leave_8 fX10_79 rfl rt_21 hS ?_
  refine g_iload_n dX10_leave_11 rfl ?_
  refine mg_iald dX10_leave_12 (by first | exact rfl | assumption) rfl rfl (by omega) hS ?_
  refine g_tableIn (off := 116) 129 dX10_leave_13 (by rw [hk]; decide) (by rw [hk]; decide) (by rw [hk]; rfl) (by decide) ?_
  refine g_aload_n dX10_leave_129 rfl ?_
  refine mg_getI 31 dX10_leave_130 fX10_138 rfl (by decide) hS ?_
  refine g_iconstV (v := 3) dX10_leave_133 (by decide) ?_
  refine g_icmp_ne 144 dX10_leave_134 (by decide) (fun _ => ?_) (fun q => absurd q (hw))
  refine g_aload_n dX10_leave_144 rfl ?_
  refine g_callV (d1 := d - 1) (As := []) 9 dX10_leave_145 vX10_172 (by omega) (mg_ob hS) rfl rfl (Nat.le_of_ble_eq_true rfl) ?_
  refine gM.imp k (fun r w1 _ _ hq => ?_)
  obtain ⟨rfl, hq⟩ := hq
  refine g_goto 168 dX10_leave_148 (by decide) ?_
  refine g_vret dX10_leave_168 rfl ?_
  exact hq
set_option maxHeartbeats 4000000 in
set_option maxRecDepth 20000 in
theorem m_leaveCatch {g : GE} {d : Nat} {w : GW} {σ : MW} {Q : Option Value → GW → Prop} (hd : 1 ≤ d) (hS : SK g w) {o : Nat} (ho : mI σ 29 = nI (o + 1)) (ho2 : o < 60) (hk : mA σ 21 o = 4) (k : gM g (d - 1) mX10_lastPart [.ref (eB g + 70)] (put g σ w) (fun r w1 => r = none ∧ Q none w1)) : gM g d mX10_leave [.ref (eB g + 70)] (put g σ w) Q := by
  refine gM.of (by decide) (Nat.le_of_ble_eq_true rfl) ?_
  have eo : mI σ 29 - 1 = nI o := by rw [ho]; exact nI_pred o
  refine g_aload_n dX10_leave_0 rfl ?_
  refine mg_getI 29 dX10_leave_1 fX10_156 rfl (by decide) hS ?_
  refine g_iconstV (v := 1) dX10_leave_4 (by decide) ?_
  refine g_isub dX10_leave_5 ?_
  rw [eo]
  refine g_istore_n dX10_leave_6 (by decide) rfl ?_
  refine g_aload_n dX10_leave_7 rfl ?_
  refine mg_getA 24 21 dX10_leave_8 fX10_79 rfl rt_21 hS ?_
  refine g_iload_n dX10_leave_11 rfl ?_
  refine mg_iald dX10_leave_12 (by first | exact rfl | assumption) rfl rfl (by omega) hS ?_
  refine g_tableIn (off := 138) 151 dX10_leave_13 (by rw [hk]; decide) (by rw [hk]; decide) (by rw [hk]; rfl) (by decide) ?_
  refine g_aload_n dX10_leave_151 rfl ?_
  refine g_callV (d1 := d - 1) (As := []) 9 dX10_leave_152 vX10_172 (by omega) (mg_ob hS) rfl rfl (Nat.le_of_ble_eq_true rfl) ?_
  refine gM.imp k (fun r w1 _ _ hq => ?_)
  obtain ⟨rfl, hq⟩ := hq
  refine g_goto 168 dX10_leave_155 (by decide) ?_
  refine g_vret dX10_leave_168 rfl ?_
  exact hq
