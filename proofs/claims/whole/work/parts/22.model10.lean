noncomputable def fFine (how : Int32) (x y : UInt64) : UInt64 := if how = 0 then FP.dadd x y else if how = 1 then FP.dsub x y else if how = 2 then FP.dmul x y else if how = 3 then FP.ddiv x y else if how = 4 then FP.drem x y else if how = 13 then FP.l2d (FP.d2l y) else mChosen how x y
theorem nn32_f2d {x : UInt32} (h : FP.Core.val32 x ≠ .nan) : vf_n64 (FP.f2d x) := n64 (by
  have h1 : FP.fIsNaN x = false := (FP.Core.notNaN_iff32 x).mpr h
  have h2 : FP.dIsNaN (FP.f2d x) = false := (FP.f2d_nan x).trans h1
  exact (FP.Core.notNaN_iff _).mp h2)
theorem nn_d2f {x : UInt64} (h : DF x) : FP.Core.val32 (FP.d2f x) ≠ .nan := by
  have h1 : FP.dIsNaN x = false := (FP.Core.notNaN_iff x).mpr h.nn
  have h2 : FP.fIsNaN (FP.d2f x) = false := (FP.d2f_nan x).trans h1
  exact (FP.Core.notNaN_iff32 _).mp h2
theorem f_add {a b : UInt32} (ha : FF a) (hb : FF b) : FP.Core.val32 (FP.fadd a b) ≠ .nan := by
  obtain ⟨s, c, q, e⟩ := ha
  obtain ⟨t, d, r, e2⟩ := hb
  rw [FP.Core.val32_fadd, e, e2]
  exact fun h => by have := FP.Core.round_nan.mp h; cases this
theorem f_sub {a b : UInt32} (ha : FF a) (hb : FF b) : FP.Core.val32 (FP.fsub a b) ≠ .nan := by
  obtain ⟨s, c, q, e⟩ := ha
  obtain ⟨t, d, r, e2⟩ := hb
  rw [FP.Core.val32_fsub, e, e2]
  exact fun h => by have := FP.Core.round_nan.mp h; cases this
theorem f_mul {a b : UInt32} (ha : FF a) (hb : FF b) : FP.Core.val32 (FP.fmul a b) ≠ .nan := by
  obtain ⟨s, c, q, e⟩ := ha
  obtain ⟨t, d, r, e2⟩ := hb
  rw [FP.Core.val32_fmul, e, e2]
  exact fun h => by have := FP.Core.round_nan.mp h; cases this
theorem fzero_cmp {y : UInt32} (h : FP.Core.FZero y) : FP.fcmp y FP.fconst0 = some .eq := by
  obtain ⟨s, q, e⟩ := h
  show FP.Core.order (FP.Core.val32 y) (FP.Core.val32 FP.fconst0) = _
  rw [e, show FP.Core.val32 FP.fconst0 = _ from FP.Core.val32_fconst0]
  simp [FP.Core.order, FP.Core.inUnits, FP.Core.signed]
theorem f_div {a b : UInt32} (ha : FF a) (hb : FF b) (h0 : ¬ FP.fcmp b FP.fconst0 = some .eq) : FP.Core.val32 (FP.fdiv a b) ≠ .nan := by
  obtain ⟨s, c, q, e⟩ := ha
  obtain ⟨t, d, r, e2⟩ := hb
  have hd : ¬ d = 0 := fun z => h0 (fzero_cmp ⟨t, r, by rw [e2, z]⟩)
  rw [FP.Core.val32_fdiv, e, e2]
  unfold FP.Core.quotient
  simp only [if_neg hd]
  exact FP.Core.roundRatio_ne_nan _ _ _ _ _
theorem f_rem {a b : UInt32} (ha : FF a) (hb : FF b) (h0 : ¬ FP.fcmp b FP.fconst0 = some .eq) : FP.Core.val32 (FP.frem a b) ≠ .nan := by
  obtain ⟨s, c, q, e⟩ := ha
  obtain ⟨t, d, r, e2⟩ := hb
  have hd : ¬ d = 0 := fun z => h0 (fzero_cmp ⟨t, r, by rw [e2, z]⟩)
  rw [FP.Core.val32_frem, e, e2]
  exact fun h => by have := FP.Core.round_nan.mp h; simp [FP.Core.exactRemainder, hd] at this
theorem DF_f2d {x : UInt32} (h : FF x) : DF (FP.f2d x) := by
  have h1 : FP.fIsNaN x = false := (FP.Core.notNaN_iff32 x).mpr h.nn
  rw [FP.f2d_core h1]
  exact FP.Core.f2d_fin h
noncomputable def fRough (how : Int32) (x y : UInt32) : UInt64 := if how = 0 then FP.f2d (FP.fadd x y) else if how = 1 then FP.f2d (FP.fsub x y) else if how = 2 then FP.f2d (FP.fmul x y) else if how = 3 then FP.f2d (FP.fdiv x y) else if how = 4 then FP.f2d (FP.frem x y) else if how = 13 then FP.l2d (FP.f2l y) else mChosen how (FP.f2d x) (FP.f2d y)
set_option maxHeartbeats 4000000 in
set_option maxRecDepth 20000 in
theorem m_fine0 {g : GE} {d : Nat} {w : GW} {σ : MW} {Q : Option Value → GW → Prop} (hd : 6 ≤ d) (hS : SK g w) {p b c n : Nat} (hp : p < 160) (ha : mA σ 1 p = 0) (hb : mA σ 2 p = nI b) (hb2 : b < 8) (hc : mA σ 3 p = nI c) (hc2 : c < 8) (hn : mI σ 22 = nI n) (hn2 : n < 600) (hx : DF (mD σ 11 b)) (hy : DF (mD σ 11 c)) (k1 : fBeyond (fFine 0 (mD σ 11 b) (mD σ 11 c)) → Q none (put g (mFail σ n 8) w)) (k2 : ¬ fBeyond (fFine 0 (mD σ 11 b) (mD σ 11 c)) → Q none (put g (sD σ 11 b (fFine 0 (mD σ 11 b) (mD σ 11 c))) w)) : gM g d mX10_fine [.ref (eB g + 70), .int (nI p)] (put g σ w) Q := by
  refine gM.of (by decide) (Nat.le_of_ble_eq_true rfl) ?_
  have ev : fFine 0 (mD σ 11 b) (mD σ 11 c) = FP.dadd (mD σ 11 b) (mD σ 11 c) := by simp [fFine]
  rw [ev] at k1 k2
  refine g_aload_n dX10_fine_0 rfl ?_
  refine mg_getA 1 1 dX10_fine_1 fX10_13 rfl rt_1 hS ?_
  refine g_iload_n dX10_fine_4 rfl ?_
  refine mg_iald dX10_fine_5 rfl rfl rfl (by omega) hS ?_
  rw [ha]
  refine g_istore_n dX10_fine_6 (by decide) rfl ?_
  refine g_aload_n dX10_fine_7 rfl ?_
  refine mg_getA 12 11 dX10_fine_8 fX10_43 rfl rt_11 hS ?_
  refine g_aload_n dX10_fine_11 rfl ?_
  refine mg_getA 2 2 dX10_fine_12 fX10_16 rfl rt_2 hS ?_
  refine g_iload_n dX10_fine_15 rfl ?_
  refine mg_iald dX10_fine_16 rfl rfl rfl (by omega) hS ?_
  rw [hb]
  refine mg_dald dX10_fine_17 (by first | exact rfl | assumption) rfl rfl (by omega) hS ?_
  refine g_dstore_n dX10_fine_18 (by decide) rfl ?_
  refine g_aload_n dX10_fine_19 rfl ?_
  refine mg_getA 12 11 dX10_fine_20 fX10_43 rfl rt_11 hS ?_
  refine g_aload_n dX10_fine_23 rfl ?_
  refine mg_getA 3 3 dX10_fine_24 fX10_19 rfl rt_3 hS ?_
  refine g_iload_n dX10_fine_27 rfl ?_
  refine mg_iald dX10_fine_28 rfl rfl rfl (by omega) hS ?_
  rw [hc]
  refine mg_dald dX10_fine_29 (by first | exact rfl | assumption) rfl rfl (by omega) hS ?_
  refine g_dstore dX10_fine_30 (by decide) rfl ?_
  refine g_iload_n dX10_fine_32 rfl ?_
  refine g_iconstV (v := 3) dX10_fine_33 (by decide) ?_
  refine g_icmp_eq 42 dX10_fine_34 (by decide) (fun q => absurd q (by decide)) (fun _ => ?_)
  refine g_iload_n dX10_fine_37 rfl ?_
  refine g_iconstV (v := 4) dX10_fine_38 (by decide) ?_
  refine g_icmp_ne 56 dX10_fine_39 (by decide) (fun _ => ?_) (fun q => absurd q (by decide))
  refine g_iload_n dX10_fine_56 rfl ?_
  refine g_tableIn (off := 71) 128 dX10_fine_57 (by rw [show (0 : Int32) = 0 from rfl]; decide) (by rw [show (0 : Int32) = 0 from rfl]; decide) (by rw [show (0 : Int32) = 0 from rfl]; rfl) (by decide) ?_
  refine g_dload_n dX10_fine_128 rfl ?_
  refine g_dload dX10_fine_129 rfl ?_
  refine g_dadd dX10_fine_131 (nn_add hx hy) ?_
  refine g_dstore dX10_fine_132 (by decide) rfl ?_
  refine g_goto 191 dX10_fine_134 (by decide) ?_
  refine g_aload_n dX10_fine_191 rfl ?_
  refine g_aload_n dX10_fine_192 rfl ?_
  refine mg_getA 2 2 dX10_fine_193 fX10_16 rfl rt_2 hS ?_
  refine g_iload_n dX10_fine_196 rfl ?_
  refine mg_iald dX10_fine_197 rfl rfl rfl (by omega) hS ?_
  rw [hb]
  refine g_dload dX10_fine_198 rfl ?_
  refine g_callV (d1 := d - 1) (As := [_, _]) 9 dX10_fine_200 vX10_308 (by omega) (mg_ob hS) rfl rfl (Nat.le_of_ble_eq_true rfl) ?_
  refine m_turn (by omega) hS hb2 hn hn2 (fun q => ?_) (fun q => ?_)
  · refine g_vret dX10_fine_203 rfl ?_
    exact k1 q
  · refine g_vret dX10_fine_203 rfl ?_
    exact k2 q
set_option maxHeartbeats 4000000 in
set_option maxRecDepth 20000 in
theorem m_fine1 {g : GE} {d : Nat} {w : GW} {σ : MW} {Q : Option Value → GW → Prop} (hd : 6 ≤ d) (hS : SK g w) {p b c n : Nat} (hp : p < 160) (ha : mA σ 1 p = 1) (hb : mA σ 2 p = nI b) (hb2 : b < 8) (hc : mA σ 3 p = nI c) (hc2 : c < 8) (hn : mI σ 22 = nI n) (hn2 : n < 600) (hx : DF (mD σ 11 b)) (hy : DF (mD σ 11 c)) (k1 : fBeyond (fFine 1 (mD σ 11 b) (mD σ 11 c)) → Q none (put g (mFail σ n 8) w)) (k2 : ¬ fBeyond (fFine 1 (mD σ 11 b) (mD σ 11 c)) → Q none (put g (sD σ 11 b (fFine 1 (mD σ 11 b) (mD σ 11 c))) w)) : gM g d mX10_fine [.ref (eB g + 70), .int (nI p)] (put g σ w) Q := by
  refine gM.of (by decide) (Nat.le_of_ble_eq_true rfl) ?_
  have ev : fFine 1 (mD σ 11 b) (mD σ 11 c) = FP.dsub (mD σ 11 b) (mD σ 11 c) := by simp [fFine]
  rw [ev] at k1 k2
  refine g_aload_n dX10_fine_0 rfl ?_
  refine mg_getA 1 1 dX10_fine_1 fX10_13 rfl rt_1 hS ?_
  refine g_iload_n dX10_fine_4 rfl ?_
  refine mg_iald dX10_fine_5 rfl rfl rfl (by omega) hS ?_
  rw [ha]
  refine g_istore_n dX10_fine_6 (by decide) rfl ?_
  refine g_aload_n dX10_fine_7 rfl ?_
  refine mg_getA 12 11 dX10_fine_8 fX10_43 rfl rt_11 hS ?_
  refine g_aload_n dX10_fine_11 rfl ?_
  refine mg_getA 2 2 dX10_fine_12 fX10_16 rfl rt_2 hS ?_
  refine g_iload_n dX10_fine_15 rfl ?_
  refine mg_iald dX10_fine_16 rfl rfl rfl (by omega) hS ?_
  rw [hb]
  refine mg_dald dX10_fine_17 (by first | exact rfl | assumption) rfl rfl (by omega) hS ?_
  refine g_dstore_n dX10_fine_18 (by decide) rfl ?_
  refine g_aload_n dX10_fine_19 rfl ?_
  refine mg_getA 12 11 dX10_fine_20 fX10_43 rfl rt_11 hS ?_
  refine g_aload_n dX10_fine_23 rfl ?_
  refine mg_getA 3 3 dX10_fine_24 fX10_19 rfl rt_3 hS ?_
  refine g_iload_n dX10_fine_27 rfl ?_
  refine mg_iald dX10_fine_28 rfl rfl rfl (by omega) hS ?_
  rw [hc]
  refine mg_dald dX10_fine_29 (by first | exact rfl | assumption) rfl rfl (by omega) hS ?_
  refine g_dstore dX10_fine_30 (by decide) rfl ?_
  refine g_iload_n dX10_fine_32 rfl ?_
  refine g_iconstV (v := 3) dX10_fine_33 (by decide) ?_
  refine g_icmp_eq 42 dX10_fine_34 (by decide) (fun q => absurd q (by decide)) (fun _ => ?_)
  refine g_iload_n dX10_fine_37 rfl ?_
  refine g_iconstV (v := 4) dX10_fine_38 (by decide) ?_
  refine g_icmp_ne 56 dX10_fine_39 (by decide) (fun _ => ?_) (fun q => absurd q (by decide))
  refine g_iload_n dX10_fine_56 rfl ?_
  refine g_tableIn (off := 80) 137 dX10_fine_57 (by rw [show (1 : Int32) = 1 from rfl]; decide) (by rw [show (1 : Int32) = 1 from rfl]; decide) (by rw [show (1 : Int32) = 1 from rfl]; rfl) (by decide) ?_
  refine g_dload_n dX10_fine_137 rfl ?_
  refine g_dload dX10_fine_138 rfl ?_
  refine g_dsub dX10_fine_140 (nn_sub hx hy) ?_
  refine g_dstore dX10_fine_141 (by decide) rfl ?_
  refine g_goto 191 dX10_fine_143 (by decide) ?_
  refine g_aload_n dX10_fine_191 rfl ?_
  refine g_aload_n dX10_fine_192 rfl ?_
  refine mg_getA 2 2 dX10_fine_193 fX10_16 rfl rt_2 hS ?_
  refine g_iload_n dX10_fine_196 rfl ?_
  refine mg_iald dX10_fine_197 rfl rfl rfl (by omega) hS ?_
  rw [hb]
  refine g_dload dX10_fine_198 rfl ?_
  refine g_callV (d1 := d - 1) (As := [_, _]) 9 dX10_fine_200 vX10_308 (by omega) (mg_ob hS) rfl rfl (Nat.le_of_ble_eq_true rfl) ?_
  refine m_turn (by omega) hS hb2 hn hn2 (fun q => ?_) (fun q => ?_)
  · refine g_vret dX10_fine_203 rfl ?_
    exact k1 q
  · refine g_vret dX10_fine_203 rfl ?_
    exact k2 q
set_option maxHeartbeats 4000000 in
set_option maxRecDepth 20000 in
theorem m_fine2 {g : GE} {d : Nat} {w : GW} {σ : MW} {Q : Option Value → GW → Prop} (hd : 6 ≤ d) (hS : SK g w) {p b c n : Nat} (hp : p < 160) (ha : mA σ 1 p = 2) (hb : mA σ 2 p = nI b) (hb2 : b < 8) (hc : mA σ 3 p = nI c) (hc2 : c < 8) (hn : mI σ 22 = nI n) (hn2 : n < 600) (hx : DF (mD σ 11 b)) (hy : DF (mD σ 11 c)) (k1 : fBeyond (fFine 2 (mD σ 11 b) (mD σ 11 c)) → Q none (put g (mFail σ n 8) w)) (k2 : ¬ fBeyond (fFine 2 (mD σ 11 b) (mD σ 11 c)) → Q none (put g (sD σ 11 b (fFine 2 (mD σ 11 b) (mD σ 11 c))) w)) : gM g d mX10_fine [.ref (eB g + 70), .int (nI p)] (put g σ w) Q := by
  refine gM.of (by decide) (Nat.le_of_ble_eq_true rfl) ?_
  have ev : fFine 2 (mD σ 11 b) (mD σ 11 c) = FP.dmul (mD σ 11 b) (mD σ 11 c) := by simp [fFine]
  rw [ev] at k1 k2
  refine g_aload_n dX10_fine_0 rfl ?_
  refine mg_getA 1 1 dX10_fine_1 fX10_13 rfl rt_1 hS ?_
  refine g_iload_n dX10_fine_4 rfl ?_
  refine mg_iald dX10_fine_5 rfl rfl rfl (by omega) hS ?_
  rw [ha]
  refine g_istore_n dX10_fine_6 (by decide) rfl ?_
  refine g_aload_n dX10_fine_7 rfl ?_
  refine mg_getA 12 11 dX10_fine_8 fX10_43 rfl rt_11 hS ?_
  refine g_aload_n dX10_fine_11 rfl ?_
  refine mg_getA 2 2 dX10_fine_12 fX10_16 rfl rt_2 hS ?_
  refine g_iload_n dX10_fine_15 rfl ?_
  refine mg_iald dX10_fine_16 rfl rfl rfl (by omega) hS ?_
  rw [hb]
  refine mg_dald dX10_fine_17 (by first | exact rfl | assumption) rfl rfl (by omega) hS ?_
  refine g_dstore_n dX10_fine_18 (by decide) rfl ?_
  refine g_aload_n dX10_fine_19 rfl ?_
  refine mg_getA 12 11 dX10_fine_20 fX10_43 rfl rt_11 hS ?_
  refine g_aload_n dX10_fine_23 rfl ?_
  refine mg_getA 3 3 dX10_fine_24 fX10_19 rfl rt_3 hS ?_
  refine g_iload_n dX10_fine_27 rfl ?_
  refine mg_iald dX10_fine_28 rfl rfl rfl (by omega) hS ?_
  rw [hc]
  refine mg_dald dX10_fine_29 (by first | exact rfl | assumption) rfl rfl (by omega) hS ?_
  refine g_dstore dX10_fine_30 (by decide) rfl ?_
  refine g_iload_n dX10_fine_32 rfl ?_
  refine g_iconstV (v := 3) dX10_fine_33 (by decide) ?_
  refine g_icmp_eq 42 dX10_fine_34 (by decide) (fun q => absurd q (by decide)) (fun _ => ?_)
  refine g_iload_n dX10_fine_37 rfl ?_
  refine g_iconstV (v := 4) dX10_fine_38 (by decide) ?_
  refine g_icmp_ne 56 dX10_fine_39 (by decide) (fun _ => ?_) (fun q => absurd q (by decide))
  refine g_iload_n dX10_fine_56 rfl ?_
  refine g_tableIn (off := 89) 146 dX10_fine_57 (by rw [show (2 : Int32) = 2 from rfl]; decide) (by rw [show (2 : Int32) = 2 from rfl]; decide) (by rw [show (2 : Int32) = 2 from rfl]; rfl) (by decide) ?_
  refine g_dload_n dX10_fine_146 rfl ?_
  refine g_dload dX10_fine_147 rfl ?_
  refine g_dmul dX10_fine_149 (nn_mul hx hy) ?_
  refine g_dstore dX10_fine_150 (by decide) rfl ?_
  refine g_goto 191 dX10_fine_152 (by decide) ?_
  refine g_aload_n dX10_fine_191 rfl ?_
  refine g_aload_n dX10_fine_192 rfl ?_
  refine mg_getA 2 2 dX10_fine_193 fX10_16 rfl rt_2 hS ?_
  refine g_iload_n dX10_fine_196 rfl ?_
  refine mg_iald dX10_fine_197 rfl rfl rfl (by omega) hS ?_
  rw [hb]
  refine g_dload dX10_fine_198 rfl ?_
  refine g_callV (d1 := d - 1) (As := [_, _]) 9 dX10_fine_200 vX10_308 (by omega) (mg_ob hS) rfl rfl (Nat.le_of_ble_eq_true rfl) ?_
  refine m_turn (by omega) hS hb2 hn hn2 (fun q => ?_) (fun q => ?_)
  · refine g_vret dX10_fine_203 rfl ?_
    exact k1 q
  · refine g_vret dX10_fine_203 rfl ?_
    exact k2 q
set_option maxHeartbeats 4000000 in
set_option maxRecDepth 20000 in
theorem m_fine3z {g : GE} {d : Nat} {w : GW} {σ : MW} {Q : Option Value → GW → Prop} (hd : 2 ≤ d) (hS : SK g w) {p b c n : Nat} (hp : p < 160) (ha : mA σ 1 p = 3) (hb : mA σ 2 p = nI b) (hb2 : b < 8) (hc : mA σ 3 p = nI c) (hc2 : c < 8) (hn : mI σ 22 = nI n) (hn2 : n < 600) (hx : DF (mD σ 11 b)) (hy : DF (mD σ 11 c)) (hz : FP.dcmp (mD σ 11 c) FP.dconst0 = some .eq) (k : Q none (put g (mFail σ n 7) w)) : gM g d mX10_fine [.ref (eB g + 70), .int (nI p)] (put g σ w) Q := by
  refine gM.of (by decide) (Nat.le_of_ble_eq_true rfl) ?_
  refine g_aload_n dX10_fine_0 rfl ?_
  refine mg_getA 1 1 dX10_fine_1 fX10_13 rfl rt_1 hS ?_
  refine g_iload_n dX10_fine_4 rfl ?_
  refine mg_iald dX10_fine_5 rfl rfl rfl (by omega) hS ?_
  rw [ha]
  refine g_istore_n dX10_fine_6 (by decide) rfl ?_
  refine g_aload_n dX10_fine_7 rfl ?_
  refine mg_getA 12 11 dX10_fine_8 fX10_43 rfl rt_11 hS ?_
  refine g_aload_n dX10_fine_11 rfl ?_
  refine mg_getA 2 2 dX10_fine_12 fX10_16 rfl rt_2 hS ?_
  refine g_iload_n dX10_fine_15 rfl ?_
  refine mg_iald dX10_fine_16 rfl rfl rfl (by omega) hS ?_
  rw [hb]
  refine mg_dald dX10_fine_17 (by first | exact rfl | assumption) rfl rfl (by omega) hS ?_
  refine g_dstore_n dX10_fine_18 (by decide) rfl ?_
  refine g_aload_n dX10_fine_19 rfl ?_
  refine mg_getA 12 11 dX10_fine_20 fX10_43 rfl rt_11 hS ?_
  refine g_aload_n dX10_fine_23 rfl ?_
  refine mg_getA 3 3 dX10_fine_24 fX10_19 rfl rt_3 hS ?_
  refine g_iload_n dX10_fine_27 rfl ?_
  refine mg_iald dX10_fine_28 rfl rfl rfl (by omega) hS ?_
  rw [hc]
  refine mg_dald dX10_fine_29 (by first | exact rfl | assumption) rfl rfl (by omega) hS ?_
  refine g_dstore dX10_fine_30 (by decide) rfl ?_
  refine g_iload_n dX10_fine_32 rfl ?_
  refine g_iconstV (v := 3) dX10_fine_33 (by decide) ?_
  refine g_icmp_eq 42 dX10_fine_34 (by decide) (fun _ => ?_) (fun q => absurd (rfl) q)
  refine g_dload dX10_fine_42 rfl ?_
  refine g_dconst0 dX10_fine_44 ?_
  refine g_dcmp dX10_fine_45 ?_
  refine g_if_ne 56 dX10_fine_46 (by decide) (fun q => absurd ((cv_eql _).mpr hz) q) (fun _ => ?_)
  refine g_aload_n dX10_fine_49 rfl ?_
  refine g_bipushV (v := 7) dX10_fine_50 (by decide) ?_
  refine g_callV (d1 := d - 1) (As := [_]) 9 dX10_fine_52 vX10_191 (by omega) (mg_ob hS) rfl rfl (Nat.le_of_ble_eq_true rfl) ?_
  refine m_fail (by omega) hS hn hn2 ?_
  refine g_vret dX10_fine_55 rfl ?_
  exact k
set_option maxHeartbeats 4000000 in
set_option maxRecDepth 20000 in
theorem m_fine3 {g : GE} {d : Nat} {w : GW} {σ : MW} {Q : Option Value → GW → Prop} (hd : 6 ≤ d) (hS : SK g w) {p b c n : Nat} (hp : p < 160) (ha : mA σ 1 p = 3) (hb : mA σ 2 p = nI b) (hb2 : b < 8) (hc : mA σ 3 p = nI c) (hc2 : c < 8) (hn : mI σ 22 = nI n) (hn2 : n < 600) (hx : DF (mD σ 11 b)) (hy : DF (mD σ 11 c)) (hz : ¬ FP.dcmp (mD σ 11 c) FP.dconst0 = some .eq) (k1 : fBeyond (fFine 3 (mD σ 11 b) (mD σ 11 c)) → Q none (put g (mFail σ n 8) w)) (k2 : ¬ fBeyond (fFine 3 (mD σ 11 b) (mD σ 11 c)) → Q none (put g (sD σ 11 b (fFine 3 (mD σ 11 b) (mD σ 11 c))) w)) : gM g d mX10_fine [.ref (eB g + 70), .int (nI p)] (put g σ w) Q := by
  refine gM.of (by decide) (Nat.le_of_ble_eq_true rfl) ?_
  have ev : fFine 3 (mD σ 11 b) (mD σ 11 c) = FP.ddiv (mD σ 11 b) (mD σ 11 c) := by simp [fFine]
  rw [ev] at k1 k2
  refine g_aload_n dX10_fine_0 rfl ?_
  refine mg_getA 1 1 dX10_fine_1 fX10_13 rfl rt_1 hS ?_
  refine g_iload_n dX10_fine_4 rfl ?_
  refine mg_iald dX10_fine_5 rfl rfl rfl (by omega) hS ?_
  rw [ha]
  refine g_istore_n dX10_fine_6 (by decide) rfl ?_
  refine g_aload_n dX10_fine_7 rfl ?_
  refine mg_getA 12 11 dX10_fine_8 fX10_43 rfl rt_11 hS ?_
  refine g_aload_n dX10_fine_11 rfl ?_
  refine mg_getA 2 2 dX10_fine_12 fX10_16 rfl rt_2 hS ?_
  refine g_iload_n dX10_fine_15 rfl ?_
  refine mg_iald dX10_fine_16 rfl rfl rfl (by omega) hS ?_
  rw [hb]
  refine mg_dald dX10_fine_17 (by first | exact rfl | assumption) rfl rfl (by omega) hS ?_
  refine g_dstore_n dX10_fine_18 (by decide) rfl ?_
  refine g_aload_n dX10_fine_19 rfl ?_
  refine mg_getA 12 11 dX10_fine_20 fX10_43 rfl rt_11 hS ?_
  refine g_aload_n dX10_fine_23 rfl ?_
  refine mg_getA 3 3 dX10_fine_24 fX10_19 rfl rt_3 hS ?_
  refine g_iload_n dX10_fine_27 rfl ?_
  refine mg_iald dX10_fine_28 rfl rfl rfl (by omega) hS ?_
  rw [hc]
  refine mg_dald dX10_fine_29 (by first | exact rfl | assumption) rfl rfl (by omega) hS ?_
  refine g_dstore dX10_fine_30 (by decide) rfl ?_
  refine g_iload_n dX10_fine_32 rfl ?_
  refine g_iconstV (v := 3) dX10_fine_33 (by decide) ?_
  refine g_icmp_eq 42 dX10_fine_34 (by decide) (fun _ => ?_) (fun q => absurd (rfl) q)
  refine g_dload dX10_fine_42 rfl ?_
  refine g_dconst0 dX10_fine_44 ?_
  refine g_dcmp dX10_fine_45 ?_
  refine g_if_ne 56 dX10_fine_46 (by decide) (fun _ => ?_) (fun q => absurd q (fun q => hz ((cv_eql _).mp q)))
  refine g_iload_n dX10_fine_56 rfl ?_
  refine g_tableIn (off := 98) 155 dX10_fine_57 (by rw [show (3 : Int32) = 3 from rfl]; decide) (by rw [show (3 : Int32) = 3 from rfl]; decide) (by rw [show (3 : Int32) = 3 from rfl]; rfl) (by decide) ?_
  refine g_dload_n dX10_fine_155 rfl ?_
  refine g_dload dX10_fine_156 rfl ?_
  refine g_ddiv dX10_fine_158 (nn_div hx hy (fun q => nz_of hz q.2)) ?_
  refine g_dstore dX10_fine_159 (by decide) rfl ?_
  refine g_goto 191 dX10_fine_161 (by decide) ?_
  refine g_aload_n dX10_fine_191 rfl ?_
  refine g_aload_n dX10_fine_192 rfl ?_
  refine mg_getA 2 2 dX10_fine_193 fX10_16 rfl rt_2 hS ?_
  refine g_iload_n dX10_fine_196 rfl ?_
  refine mg_iald dX10_fine_197 rfl rfl rfl (by omega) hS ?_
  rw [hb]
  refine g_dload dX10_fine_198 rfl ?_
  refine g_callV (d1 := d - 1) (As := [_, _]) 9 dX10_fine_200 vX10_308 (by omega) (mg_ob hS) rfl rfl (Nat.le_of_ble_eq_true rfl) ?_
  refine m_turn (by omega) hS hb2 hn hn2 (fun q => ?_) (fun q => ?_)
  · refine g_vret dX10_fine_203 rfl ?_
    exact k1 q
  · refine g_vret dX10_fine_203 rfl ?_
    exact k2 q
set_option maxHeartbeats 4000000 in
set_option maxRecDepth 20000 in
theorem m_fine4z {g : GE} {d : Nat} {w : GW} {σ : MW} {Q : Option Value → GW → Prop} (hd : 2 ≤ d) (hS : SK g w) {p b c n : Nat} (hp : p < 160) (ha : mA σ 1 p = 4) (hb : mA σ 2 p = nI b) (hb2 : b < 8) (hc : mA σ 3 p = nI c) (hc2 : c < 8) (hn : mI σ 22 = nI n) (hn2 : n < 600) (hx : DF (mD σ 11 b)) (hy : DF (mD σ 11 c)) (hz : FP.dcmp (mD σ 11 c) FP.dconst0 = some .eq) (k : Q none (put g (mFail σ n 7) w)) : gM g d mX10_fine [.ref (eB g + 70), .int (nI p)] (put g σ w) Q := by
  refine gM.of (by decide) (Nat.le_of_ble_eq_true rfl) ?_
  refine g_aload_n dX10_fine_0 rfl ?_
  refine mg_getA 1 1 dX10_fine_1 fX10_13 rfl rt_1 hS ?_
  refine g_iload_n dX10_fine_4 rfl ?_
  refine mg_iald dX10_fine_5 rfl rfl rfl (by omega) hS ?_
  rw [ha]
  refine g_istore_n dX10_fine_6 (by decide) rfl ?_
  refine g_aload_n dX10_fine_7 rfl ?_
  refine mg_getA 12 11 dX10_fine_8 fX10_43 rfl rt_11 hS ?_
  refine g_aload_n dX10_fine_11 rfl ?_
  refine mg_getA 2 2 dX10_fine_12 fX10_16 rfl rt_2 hS ?_
  refine g_iload_n dX10_fine_15 rfl ?_
  refine mg_iald dX10_fine_16 rfl rfl rfl (by omega) hS ?_
  rw [hb]
  refine mg_dald dX10_fine_17 (by first | exact rfl | assumption) rfl rfl (by omega) hS ?_
  refine g_dstore_n dX10_fine_18 (by decide) rfl ?_
  refine g_aload_n dX10_fine_19 rfl ?_
  refine mg_getA 12 11 dX10_fine_20 fX10_43 rfl rt_11 hS ?_
  refine g_aload_n dX10_fine_23 rfl ?_
  refine mg_getA 3 3 dX10_fine_24 fX10_19 rfl rt_3 hS ?_
  refine g_iload_n dX10_fine_27 rfl ?_
  refine mg_iald dX10_fine_28 rfl rfl rfl (by omega) hS ?_
  rw [hc]
  refine mg_dald dX10_fine_29 (by first | exact rfl | assumption) rfl rfl (by omega) hS ?_
  refine g_dstore dX10_fine_30 (by decide) rfl ?_
  refine g_iload_n dX10_fine_32 rfl ?_
  refine g_iconstV (v := 3) dX10_fine_33 (by decide) ?_
  refine g_icmp_eq 42 dX10_fine_34 (by decide) (fun q => absurd q (by decide)) (fun _ => ?_)
  refine g_iload_n dX10_fine_37 rfl ?_
  refine g_iconstV (v := 4) dX10_fine_38 (by decide) ?_
  refine g_icmp_ne 56 dX10_fine_39 (by decide) (fun q => absurd (rfl) q) (fun _ => ?_)
  refine g_dload dX10_fine_42 rfl ?_
  refine g_dconst0 dX10_fine_44 ?_
  refine g_dcmp dX10_fine_45 ?_
  refine g_if_ne 56 dX10_fine_46 (by decide) (fun q => absurd ((cv_eql _).mpr hz) q) (fun _ => ?_)
  refine g_aload_n dX10_fine_49 rfl ?_
  refine g_bipushV (v := 7) dX10_fine_50 (by decide) ?_
  refine g_callV (d1 := d - 1) (As := [_]) 9 dX10_fine_52 vX10_191 (by omega) (mg_ob hS) rfl rfl (Nat.le_of_ble_eq_true rfl) ?_
  refine m_fail (by omega) hS hn hn2 ?_
  refine g_vret dX10_fine_55 rfl ?_
  exact k
set_option maxHeartbeats 4000000 in
set_option maxRecDepth 20000 in
theorem m_fine4 {g : GE} {d : Nat} {w : GW} {σ : MW} {Q : Option Value → GW → Prop} (hd : 6 ≤ d) (hS : SK g w) {p b c n : Nat} (hp : p < 160) (ha : mA σ 1 p = 4) (hb : mA σ 2 p = nI b) (hb2 : b < 8) (hc : mA σ 3 p = nI c) (hc2 : c < 8) (hn : mI σ 22 = nI n) (hn2 : n < 600) (hx : DF (mD σ 11 b)) (hy : DF (mD σ 11 c)) (hz : ¬ FP.dcmp (mD σ 11 c) FP.dconst0 = some .eq) (k1 : fBeyond (fFine 4 (mD σ 11 b) (mD σ 11 c)) → Q none (put g (mFail σ n 8) w)) (k2 : ¬ fBeyond (fFine 4 (mD σ 11 b) (mD σ 11 c)) → Q none (put g (sD σ 11 b (fFine 4 (mD σ 11 b) (mD σ 11 c))) w)) : gM g d mX10_fine [.ref (eB g + 70), .int (nI p)] (put g σ w) Q := by
  refine gM.of (by decide) (Nat.le_of_ble_eq_true rfl) ?_
  have ev : fFine 4 (mD σ 11 b) (mD σ 11 c) = FP.drem (mD σ 11 b) (mD σ 11 c) := by simp [fFine]
  rw [ev] at k1 k2
  refine g_aload_n dX10_fine_0 rfl ?_
  refine mg_getA 1 1 dX10_fine_1 fX10_13 rfl rt_1 hS ?_
  refine g_iload_n dX10_fine_4 rfl ?_
  refine mg_iald dX10_fine_5 rfl rfl rfl (by omega) hS ?_
  rw [ha]
  refine g_istore_n dX10_fine_6 (by decide) rfl ?_
  refine g_aload_n dX10_fine_7 rfl ?_
  refine mg_getA 12 11 dX10_fine_8 fX10_43 rfl rt_11 hS ?_
  refine g_aload_n dX10_fine_11 rfl ?_
  refine mg_getA 2 2 dX10_fine_12 fX10_16 rfl rt_2 hS ?_
  refine g_iload_n dX10_fine_15 rfl ?_
  refine mg_iald dX10_fine_16 rfl rfl rfl (by omega) hS ?_
  rw [hb]
  refine mg_dald dX10_fine_17 (by first | exact rfl | assumption) rfl rfl (by omega) hS ?_
  refine g_dstore_n dX10_fine_18 (by decide) rfl ?_
  refine g_aload_n dX10_fine_19 rfl ?_
  refine mg_getA 12 11 dX10_fine_20 fX10_43 rfl rt_11 hS ?_
  refine g_aload_n dX10_fine_23 rfl ?_
  refine mg_getA 3 3 dX10_fine_24 fX10_19 rfl rt_3 hS ?_
  refine g_iload_n dX10_fine_27 rfl ?_
  refine mg_iald dX10_fine_28 rfl rfl rfl (by omega) hS ?_
  rw [hc]
  refine mg_dald dX10_fine_29 (by first | exact rfl | assumption) rfl rfl (by omega) hS ?_
  refine g_dstore dX10_fine_30 (by decide) rfl ?_
  refine g_iload_n dX10_fine_32 rfl ?_
  refine g_iconstV (v := 3) dX10_fine_33 (by decide) ?_
  refine g_icmp_eq 42 dX10_fine_34 (by decide) (fun q => absurd q (by decide)) (fun _ => ?_)
  refine g_iload_n dX10_fine_37 rfl ?_
  refine g_iconstV (v := 4) dX10_fine_38 (by decide) ?_
  refine g_icmp_ne 56 dX10_fine_39 (by decide) (fun q => absurd (rfl) q) (fun _ => ?_)
  refine g_dload dX10_fine_42 rfl ?_
  refine g_dconst0 dX10_fine_44 ?_
  refine g_dcmp dX10_fine_45 ?_
  refine g_if_ne 56 dX10_fine_46 (by decide) (fun _ => ?_) (fun q => absurd q (fun q => hz ((cv_eql _).mp q)))
  refine g_iload_n dX10_fine_56 rfl ?_
  refine g_tableIn (off := 107) 164 dX10_fine_57 (by rw [show (4 : Int32) = 4 from rfl]; decide) (by rw [show (4 : Int32) = 4 from rfl]; decide) (by rw [show (4 : Int32) = 4 from rfl]; rfl) (by decide) ?_
  refine g_dload_n dX10_fine_164 rfl ?_
  refine g_dload dX10_fine_165 rfl ?_
  refine g_drem dX10_fine_167 (nn_rem hx hy (nz_of hz)) ?_
  refine g_dstore dX10_fine_168 (by decide) rfl ?_
  refine g_goto 191 dX10_fine_170 (by decide) ?_
  refine g_aload_n dX10_fine_191 rfl ?_
  refine g_aload_n dX10_fine_192 rfl ?_
  refine mg_getA 2 2 dX10_fine_193 fX10_16 rfl rt_2 hS ?_
  refine g_iload_n dX10_fine_196 rfl ?_
  refine mg_iald dX10_fine_197 rfl rfl rfl (by omega) hS ?_
  rw [hb]
  refine g_dload dX10_fine_198 rfl ?_
  refine g_callV (d1 := d - 1) (As := [_, _]) 9 dX10_fine_200 vX10_308 (by omega) (mg_ob hS) rfl rfl (Nat.le_of_ble_eq_true rfl) ?_
  refine m_turn (by omega) hS hb2 hn hn2 (fun q => ?_) (fun q => ?_)
  · refine g_vret dX10_fine_203 rfl ?_
    exact k1 q
  · refine g_vret dX10_fine_203 rfl ?_
    exact k2 q
set_option maxHeartbeats 4000000 in
set_option maxRecDepth 20000 in
theorem m_fine5 {g : GE} {d : Nat} {w : GW} {σ : MW} {Q : Option Value → GW → Prop} (hd : 6 ≤ d) (hS : SK g w) {p b c n : Nat} (hp : p < 160) (ha : mA σ 1 p = 5) (hb : mA σ 2 p = nI b) (hb2 : b < 8) (hc : mA σ 3 p = nI c) (hc2 : c < 8) (hn : mI σ 22 = nI n) (hn2 : n < 600) (hx : DF (mD σ 11 b)) (hy : DF (mD σ 11 c)) (k1 : fBeyond (fFine 5 (mD σ 11 b) (mD σ 11 c)) → Q none (put g (mFail σ n 8) w)) (k2 : ¬ fBeyond (fFine 5 (mD σ 11 b) (mD σ 11 c)) → Q none (put g (sD σ 11 b (fFine 5 (mD σ 11 b) (mD σ 11 c))) w)) : gM g d mX10_fine [.ref (eB g + 70), .int (nI p)] (put g σ w) Q := by
  refine gM.of (by decide) (Nat.le_of_ble_eq_true rfl) ?_
  have ev : fFine 5 (mD σ 11 b) (mD σ 11 c) = mChosen 5 (mD σ 11 b) (mD σ 11 c) := by simp [fFine]
  rw [ev] at k1 k2
  refine g_aload_n dX10_fine_0 rfl ?_
  refine mg_getA 1 1 dX10_fine_1 fX10_13 rfl rt_1 hS ?_
  refine g_iload_n dX10_fine_4 rfl ?_
  refine mg_iald dX10_fine_5 rfl rfl rfl (by omega) hS ?_
  rw [ha]
  refine g_istore_n dX10_fine_6 (by decide) rfl ?_
  refine g_aload_n dX10_fine_7 rfl ?_
  refine mg_getA 12 11 dX10_fine_8 fX10_43 rfl rt_11 hS ?_
  refine g_aload_n dX10_fine_11 rfl ?_
  refine mg_getA 2 2 dX10_fine_12 fX10_16 rfl rt_2 hS ?_
  refine g_iload_n dX10_fine_15 rfl ?_
  refine mg_iald dX10_fine_16 rfl rfl rfl (by omega) hS ?_
  rw [hb]
  refine mg_dald dX10_fine_17 (by first | exact rfl | assumption) rfl rfl (by omega) hS ?_
  refine g_dstore_n dX10_fine_18 (by decide) rfl ?_
  refine g_aload_n dX10_fine_19 rfl ?_
  refine mg_getA 12 11 dX10_fine_20 fX10_43 rfl rt_11 hS ?_
  refine g_aload_n dX10_fine_23 rfl ?_
  refine mg_getA 3 3 dX10_fine_24 fX10_19 rfl rt_3 hS ?_
  refine g_iload_n dX10_fine_27 rfl ?_
  refine mg_iald dX10_fine_28 rfl rfl rfl (by omega) hS ?_
  rw [hc]
  refine mg_dald dX10_fine_29 (by first | exact rfl | assumption) rfl rfl (by omega) hS ?_
  refine g_dstore dX10_fine_30 (by decide) rfl ?_
  refine g_iload_n dX10_fine_32 rfl ?_
  refine g_iconstV (v := 3) dX10_fine_33 (by decide) ?_
  refine g_icmp_eq 42 dX10_fine_34 (by decide) (fun q => absurd q (by decide)) (fun _ => ?_)
  refine g_iload_n dX10_fine_37 rfl ?_
  refine g_iconstV (v := 4) dX10_fine_38 (by decide) ?_
  refine g_icmp_ne 56 dX10_fine_39 (by decide) (fun _ => ?_) (fun q => absurd q (by decide))
  refine g_iload_n dX10_fine_56 rfl ?_
  refine g_tableIn (off := 125) 182 dX10_fine_57 (by rw [show (5 : Int32) = 5 from rfl]; decide) (by rw [show (5 : Int32) = 5 from rfl]; decide) (by rw [show (5 : Int32) = 5 from rfl]; rfl) (by decide) ?_
  refine g_iload_n dX10_fine_182 rfl ?_
  refine g_dload_n dX10_fine_183 rfl ?_
  refine g_dload dX10_fine_184 rfl ?_
  refine g_callS (d1 := d - 1) (As := [_, _, _]) dX10_fine_186 sX10_304 (by omega) rfl rfl (Nat.le_of_ble_eq_true rfl) ?_
  refine m_chosen (by omega) hx hy ?_
  refine g_dstore dX10_fine_189 (by decide) rfl ?_
  refine g_aload_n dX10_fine_191 rfl ?_
  refine g_aload_n dX10_fine_192 rfl ?_
  refine mg_getA 2 2 dX10_fine_193 fX10_16 rfl rt_2 hS ?_
  refine g_iload_n dX10_fine_196 rfl ?_
  refine mg_iald dX10_fine_197 rfl rfl rfl (by omega) hS ?_
  rw [hb]
  refine g_dload dX10_fine_198 rfl ?_
  refine g_callV (d1 := d - 1) (As := [_, _]) 9 dX10_fine_200 vX10_308 (by omega) (mg_ob hS) rfl rfl (Nat.le_of_ble_eq_true rfl) ?_
  refine m_turn (by omega) hS hb2 hn hn2 (fun q => ?_) (fun q => ?_)
  · refine g_vret dX10_fine_203 rfl ?_
    exact k1 q
  · refine g_vret dX10_fine_203 rfl ?_
    exact k2 q
set_option maxHeartbeats 4000000 in
set_option maxRecDepth 20000 in
theorem m_fine6 {g : GE} {d : Nat} {w : GW} {σ : MW} {Q : Option Value → GW → Prop} (hd : 6 ≤ d) (hS : SK g w) {p b c n : Nat} (hp : p < 160) (ha : mA σ 1 p = 6) (hb : mA σ 2 p = nI b) (hb2 : b < 8) (hc : mA σ 3 p = nI c) (hc2 : c < 8) (hn : mI σ 22 = nI n) (hn2 : n < 600) (hx : DF (mD σ 11 b)) (hy : DF (mD σ 11 c)) (k1 : fBeyond (fFine 6 (mD σ 11 b) (mD σ 11 c)) → Q none (put g (mFail σ n 8) w)) (k2 : ¬ fBeyond (fFine 6 (mD σ 11 b) (mD σ 11 c)) → Q none (put g (sD σ 11 b (fFine 6 (mD σ 11 b) (mD σ 11 c))) w)) : gM g d mX10_fine [.ref (eB g + 70), .int (nI p)] (put g σ w) Q := by
  refine gM.of (by decide) (Nat.le_of_ble_eq_true rfl) ?_
  have ev : fFine 6 (mD σ 11 b) (mD σ 11 c) = mChosen 6 (mD σ 11 b) (mD σ 11 c) := by simp [fFine]
  rw [ev] at k1 k2
  refine g_aload_n dX10_fine_0 rfl ?_
  refine mg_getA 1 1 dX10_fine_1 fX10_13 rfl rt_1 hS ?_
  refine g_iload_n dX10_fine_4 rfl ?_
  refine mg_iald dX10_fine_5 rfl rfl rfl (by omega) hS ?_
  rw [ha]
  refine g_istore_n dX10_fine_6 (by decide) rfl ?_
  refine g_aload_n dX10_fine_7 rfl ?_
  refine mg_getA 12 11 dX10_fine_8 fX10_43 rfl rt_11 hS ?_
  refine g_aload_n dX10_fine_11 rfl ?_
  refine mg_getA 2 2 dX10_fine_12 fX10_16 rfl rt_2 hS ?_
  refine g_iload_n dX10_fine_15 rfl ?_
  refine mg_iald dX10_fine_16 rfl rfl rfl (by omega) hS ?_
  rw [hb]
  refine mg_dald dX10_fine_17 (by first | exact rfl | assumption) rfl rfl (by omega) hS ?_
  refine g_dstore_n dX10_fine_18 (by decide) rfl ?_
  refine g_aload_n dX10_fine_19 rfl ?_
  refine mg_getA 12 11 dX10_fine_20 fX10_43 rfl rt_11 hS ?_
  refine g_aload_n dX10_fine_23 rfl ?_
  refine mg_getA 3 3 dX10_fine_24 fX10_19 rfl rt_3 hS ?_
  refine g_iload_n dX10_fine_27 rfl ?_
  refine mg_iald dX10_fine_28 rfl rfl rfl (by omega) hS ?_
  rw [hc]
  refine mg_dald dX10_fine_29 (by first | exact rfl | assumption) rfl rfl (by omega) hS ?_
  refine g_dstore dX10_fine_30 (by decide) rfl ?_
  refine g_iload_n dX10_fine_32 rfl ?_
  refine g_iconstV (v := 3) dX10_fine_33 (by decide) ?_
  refine g_icmp_eq 42 dX10_fine_34 (by decide) (fun q => absurd q (by decide)) (fun _ => ?_)
  refine g_iload_n dX10_fine_37 rfl ?_
  refine g_iconstV (v := 4) dX10_fine_38 (by decide) ?_
  refine g_icmp_ne 56 dX10_fine_39 (by decide) (fun _ => ?_) (fun q => absurd q (by decide))
  refine g_iload_n dX10_fine_56 rfl ?_
  refine g_tableIn (off := 125) 182 dX10_fine_57 (by rw [show (6 : Int32) = 6 from rfl]; decide) (by rw [show (6 : Int32) = 6 from rfl]; decide) (by rw [show (6 : Int32) = 6 from rfl]; rfl) (by decide) ?_
  refine g_iload_n dX10_fine_182 rfl ?_
  refine g_dload_n dX10_fine_183 rfl ?_
  refine g_dload dX10_fine_184 rfl ?_
  refine g_callS (d1 := d - 1) (As := [_, _, _]) dX10_fine_186 sX10_304 (by omega) rfl rfl (Nat.le_of_ble_eq_true rfl) ?_
  refine m_chosen (by omega) hx hy ?_
  refine g_dstore dX10_fine_189 (by decide) rfl ?_
  refine g_aload_n dX10_fine_191 rfl ?_
  refine g_aload_n dX10_fine_192 rfl ?_
  refine mg_getA 2 2 dX10_fine_193 fX10_16 rfl rt_2 hS ?_
  refine g_iload_n dX10_fine_196 rfl ?_
  refine mg_iald dX10_fine_197 rfl rfl rfl (by omega) hS ?_
  rw [hb]
  refine g_dload dX10_fine_198 rfl ?_
  refine g_callV (d1 := d - 1) (As := [_, _]) 9 dX10_fine_200 vX10_308 (by omega) (mg_ob hS) rfl rfl (Nat.le_of_ble_eq_true rfl) ?_
  refine m_turn (by omega) hS hb2 hn hn2 (fun q => ?_) (fun q => ?_)
  · refine g_vret dX10_fine_203 rfl ?_
    exact k1 q
  · refine g_vret dX10_fine_203 rfl ?_
    exact k2 q
set_option maxHeartbeats 4000000 in
set_option maxRecDepth 20000 in
theorem m_fine7 {g : GE} {d : Nat} {w : GW} {σ : MW} {Q : Option Value → GW → Prop} (hd : 6 ≤ d) (hS : SK g w) {p b c n : Nat} (hp : p < 160) (ha : mA σ 1 p = 7) (hb : mA σ 2 p = nI b) (hb2 : b < 8) (hc : mA σ 3 p = nI c) (hc2 : c < 8) (hn : mI σ 22 = nI n) (hn2 : n < 600) (hx : DF (mD σ 11 b)) (hy : DF (mD σ 11 c)) (k1 : fBeyond (fFine 7 (mD σ 11 b) (mD σ 11 c)) → Q none (put g (mFail σ n 8) w)) (k2 : ¬ fBeyond (fFine 7 (mD σ 11 b) (mD σ 11 c)) → Q none (put g (sD σ 11 b (fFine 7 (mD σ 11 b) (mD σ 11 c))) w)) : gM g d mX10_fine [.ref (eB g + 70), .int (nI p)] (put g σ w) Q := by
  refine gM.of (by decide) (Nat.le_of_ble_eq_true rfl) ?_
  have ev : fFine 7 (mD σ 11 b) (mD σ 11 c) = mChosen 7 (mD σ 11 b) (mD σ 11 c) := by simp [fFine]
  rw [ev] at k1 k2
  refine g_aload_n dX10_fine_0 rfl ?_
  refine mg_getA 1 1 dX10_fine_1 fX10_13 rfl rt_1 hS ?_
  refine g_iload_n dX10_fine_4 rfl ?_
  refine mg_iald dX10_fine_5 rfl rfl rfl (by omega) hS ?_
  rw [ha]
  refine g_istore_n dX10_fine_6 (by decide) rfl ?_
  refine g_aload_n dX10_fine_7 rfl ?_
  refine mg_getA 12 11 dX10_fine_8 fX10_43 rfl rt_11 hS ?_
  refine g_aload_n dX10_fine_11 rfl ?_
  refine mg_getA 2 2 dX10_fine_12 fX10_16 rfl rt_2 hS ?_
  refine g_iload_n dX10_fine_15 rfl ?_
  refine mg_iald dX10_fine_16 rfl rfl rfl (by omega) hS ?_
  rw [hb]
  refine mg_dald dX10_fine_17 (by first | exact rfl | assumption) rfl rfl (by omega) hS ?_
  refine g_dstore_n dX10_fine_18 (by decide) rfl ?_
  refine g_aload_n dX10_fine_19 rfl ?_
  refine mg_getA 12 11 dX10_fine_20 fX10_43 rfl rt_11 hS ?_
  refine g_aload_n dX10_fine_23 rfl ?_
  refine mg_getA 3 3 dX10_fine_24 fX10_19 rfl rt_3 hS ?_
  refine g_iload_n dX10_fine_27 rfl ?_
  refine mg_iald dX10_fine_28 rfl rfl rfl (by omega) hS ?_
  rw [hc]
  refine mg_dald dX10_fine_29 (by first | exact rfl | assumption) rfl rfl (by omega) hS ?_
  refine g_dstore dX10_fine_30 (by decide) rfl ?_
  refine g_iload_n dX10_fine_32 rfl ?_
  refine g_iconstV (v := 3) dX10_fine_33 (by decide) ?_
  refine g_icmp_eq 42 dX10_fine_34 (by decide) (fun q => absurd q (by decide)) (fun _ => ?_)
  refine g_iload_n dX10_fine_37 rfl ?_
  refine g_iconstV (v := 4) dX10_fine_38 (by decide) ?_
  refine g_icmp_ne 56 dX10_fine_39 (by decide) (fun _ => ?_) (fun q => absurd q (by decide))
  refine g_iload_n dX10_fine_56 rfl ?_
  refine g_tableIn (off := 125) 182 dX10_fine_57 (by rw [show (7 : Int32) = 7 from rfl]; decide) (by rw [show (7 : Int32) = 7 from rfl]; decide) (by rw [show (7 : Int32) = 7 from rfl]; rfl) (by decide) ?_
  refine g_iload_n dX10_fine_182 rfl ?_
  refine g_dload_n dX10_fine_183 rfl ?_
  refine g_dload dX10_fine_184 rfl ?_
  refine g_callS (d1 := d - 1) (As := [_, _, _]) dX10_fine_186 sX10_304 (by omega) rfl rfl (Nat.le_of_ble_eq_true rfl) ?_
  refine m_chosen (by omega) hx hy ?_
  refine g_dstore dX10_fine_189 (by decide) rfl ?_
  refine g_aload_n dX10_fine_191 rfl ?_
  refine g_aload_n dX10_fine_192 rfl ?_
  refine mg_getA 2 2 dX10_fine_193 fX10_16 rfl rt_2 hS ?_
  refine g_iload_n dX10_fine_196 rfl ?_
  refine mg_iald dX10_fine_197 rfl rfl rfl (by omega) hS ?_
  rw [hb]
  refine g_dload dX10_fine_198 rfl ?_
  refine g_callV (d1 := d - 1) (As := [_, _]) 9 dX10_fine_200 vX10_308 (by omega) (mg_ob hS) rfl rfl (Nat.le_of_ble_eq_true rfl) ?_
  refine m_turn (by omega) hS hb2 hn hn2 (fun q => ?_) (fun q => ?_)
  · refine g_vret dX10_fine_203 rfl ?_
    exact k1 q
  · refine g_vret dX10_fine_203 rfl ?_
    exact k2 q
set_option maxHeartbeats 4000000 in
set_option maxRecDepth 20000 in
theorem m_fine8 {g : GE} {d : Nat} {w : GW} {σ : MW} {Q : Option Value → GW → Prop} (hd : 6 ≤ d) (hS : SK g w) {p b c n : Nat} (hp : p < 160) (ha : mA σ 1 p = 8) (hb : mA σ 2 p = nI b) (hb2 : b < 8) (hc : mA σ 3 p = nI c) (hc2 : c < 8) (hn : mI σ 22 = nI n) (hn2 : n < 600) (hx : DF (mD σ 11 b)) (hy : DF (mD σ 11 c)) (k1 : fBeyond (fFine 8 (mD σ 11 b) (mD σ 11 c)) → Q none (put g (mFail σ n 8) w)) (k2 : ¬ fBeyond (fFine 8 (mD σ 11 b) (mD σ 11 c)) → Q none (put g (sD σ 11 b (fFine 8 (mD σ 11 b) (mD σ 11 c))) w)) : gM g d mX10_fine [.ref (eB g + 70), .int (nI p)] (put g σ w) Q := by
  refine gM.of (by decide) (Nat.le_of_ble_eq_true rfl) ?_
  have ev : fFine 8 (mD σ 11 b) (mD σ 11 c) = mChosen 8 (mD σ 11 b) (mD σ 11 c) := by simp [fFine]
  rw [ev] at k1 k2
  refine g_aload_n dX10_fine_0 rfl ?_
  refine mg_getA 1 1 dX10_fine_1 fX10_13 rfl rt_1 hS ?_
  refine g_iload_n dX10_fine_4 rfl ?_
  refine mg_iald dX10_fine_5 rfl rfl rfl (by omega) hS ?_
  rw [ha]
  refine g_istore_n dX10_fine_6 (by decide) rfl ?_
  refine g_aload_n dX10_fine_7 rfl ?_
  refine mg_getA 12 11 dX10_fine_8 fX10_43 rfl rt_11 hS ?_
  refine g_aload_n dX10_fine_11 rfl ?_
  refine mg_getA 2 2 dX10_fine_12 fX10_16 rfl rt_2 hS ?_
  refine g_iload_n dX10_fine_15 rfl ?_
  refine mg_iald dX10_fine_16 rfl rfl rfl (by omega) hS ?_
  rw [hb]
  refine mg_dald dX10_fine_17 (by first | exact rfl | assumption) rfl rfl (by omega) hS ?_
  refine g_dstore_n dX10_fine_18 (by decide) rfl ?_
  refine g_aload_n dX10_fine_19 rfl ?_
  refine mg_getA 12 11 dX10_fine_20 fX10_43 rfl rt_11 hS ?_
  refine g_aload_n dX10_fine_23 rfl ?_
  refine mg_getA 3 3 dX10_fine_24 fX10_19 rfl rt_3 hS ?_
  refine g_iload_n dX10_fine_27 rfl ?_
  refine mg_iald dX10_fine_28 rfl rfl rfl (by omega) hS ?_
  rw [hc]
  refine mg_dald dX10_fine_29 (by first | exact rfl | assumption) rfl rfl (by omega) hS ?_
  refine g_dstore dX10_fine_30 (by decide) rfl ?_
  refine g_iload_n dX10_fine_32 rfl ?_
  refine g_iconstV (v := 3) dX10_fine_33 (by decide) ?_
  refine g_icmp_eq 42 dX10_fine_34 (by decide) (fun q => absurd q (by decide)) (fun _ => ?_)
  refine g_iload_n dX10_fine_37 rfl ?_
  refine g_iconstV (v := 4) dX10_fine_38 (by decide) ?_
  refine g_icmp_ne 56 dX10_fine_39 (by decide) (fun _ => ?_) (fun q => absurd q (by decide))
  refine g_iload_n dX10_fine_56 rfl ?_
  refine g_tableIn (off := 125) 182 dX10_fine_57 (by rw [show (8 : Int32) = 8 from rfl]; decide) (by rw [show (8 : Int32) = 8 from rfl]; decide) (by rw [show (8 : Int32) = 8 from rfl]; rfl) (by decide) ?_
  refine g_iload_n dX10_fine_182 rfl ?_
  refine g_dload_n dX10_fine_183 rfl ?_
  refine g_dload dX10_fine_184 rfl ?_
  refine g_callS (d1 := d - 1) (As := [_, _, _]) dX10_fine_186 sX10_304 (by omega) rfl rfl (Nat.le_of_ble_eq_true rfl) ?_
  refine m_chosen (by omega) hx hy ?_
  refine g_dstore dX10_fine_189 (by decide) rfl ?_
  refine g_aload_n dX10_fine_191 rfl ?_
  refine g_aload_n dX10_fine_192 rfl ?_
  refine mg_getA 2 2 dX10_fine_193 fX10_16 rfl rt_2 hS ?_
  refine g_iload_n dX10_fine_196 rfl ?_
  refine mg_iald dX10_fine_197 rfl rfl rfl (by omega) hS ?_
  rw [hb]
  refine g_dload dX10_fine_198 rfl ?_
  refine g_callV (d1 := d - 1) (As := [_, _]) 9 dX10_fine_200 vX10_308 (by omega) (mg_ob hS) rfl rfl (Nat.le_of_ble_eq_true rfl) ?_
  refine m_turn (by omega) hS hb2 hn hn2 (fun q => ?_) (fun q => ?_)
  · refine g_vret dX10_fine_203 rfl ?_
    exact k1 q
  · refine g_vret dX10_fine_203 rfl ?_
    exact k2 q
set_option maxHeartbeats 4000000 in
set_option maxRecDepth 20000 in
theorem m_fine9 {g : GE} {d : Nat} {w : GW} {σ : MW} {Q : Option Value → GW → Prop} (hd : 6 ≤ d) (hS : SK g w) {p b c n : Nat} (hp : p < 160) (ha : mA σ 1 p = 9) (hb : mA σ 2 p = nI b) (hb2 : b < 8) (hc : mA σ 3 p = nI c) (hc2 : c < 8) (hn : mI σ 22 = nI n) (hn2 : n < 600) (hx : DF (mD σ 11 b)) (hy : DF (mD σ 11 c)) (k1 : fBeyond (fFine 9 (mD σ 11 b) (mD σ 11 c)) → Q none (put g (mFail σ n 8) w)) (k2 : ¬ fBeyond (fFine 9 (mD σ 11 b) (mD σ 11 c)) → Q none (put g (sD σ 11 b (fFine 9 (mD σ 11 b) (mD σ 11 c))) w)) : gM g d mX10_fine [.ref (eB g + 70), .int (nI p)] (put g σ w) Q := by
  refine gM.of (by decide) (Nat.le_of_ble_eq_true rfl) ?_
  have ev : fFine 9 (mD σ 11 b) (mD σ 11 c) = mChosen 9 (mD σ 11 b) (mD σ 11 c) := by simp [fFine]
  rw [ev] at k1 k2
  refine g_aload_n dX10_fine_0 rfl ?_
  refine mg_getA 1 1 dX10_fine_1 fX10_13 rfl rt_1 hS ?_
  refine g_iload_n dX10_fine_4 rfl ?_
  refine mg_iald dX10_fine_5 rfl rfl rfl (by omega) hS ?_
  rw [ha]
  refine g_istore_n dX10_fine_6 (by decide) rfl ?_
  refine g_aload_n dX10_fine_7 rfl ?_
  refine mg_getA 12 11 dX10_fine_8 fX10_43 rfl rt_11 hS ?_
  refine g_aload_n dX10_fine_11 rfl ?_
  refine mg_getA 2 2 dX10_fine_12 fX10_16 rfl rt_2 hS ?_
  refine g_iload_n dX10_fine_15 rfl ?_
  refine mg_iald dX10_fine_16 rfl rfl rfl (by omega) hS ?_
  rw [hb]
  refine mg_dald dX10_fine_17 (by first | exact rfl | assumption) rfl rfl (by omega) hS ?_
  refine g_dstore_n dX10_fine_18 (by decide) rfl ?_
  refine g_aload_n dX10_fine_19 rfl ?_
  refine mg_getA 12 11 dX10_fine_20 fX10_43 rfl rt_11 hS ?_
  refine g_aload_n dX10_fine_23 rfl ?_
  refine mg_getA 3 3 dX10_fine_24 fX10_19 rfl rt_3 hS ?_
  refine g_iload_n dX10_fine_27 rfl ?_
  refine mg_iald dX10_fine_28 rfl rfl rfl (by omega) hS ?_
  rw [hc]
  refine mg_dald dX10_fine_29 (by first | exact rfl | assumption) rfl rfl (by omega) hS ?_
  refine g_dstore dX10_fine_30 (by decide) rfl ?_
  refine g_iload_n dX10_fine_32 rfl ?_
  refine g_iconstV (v := 3) dX10_fine_33 (by decide) ?_
  refine g_icmp_eq 42 dX10_fine_34 (by decide) (fun q => absurd q (by decide)) (fun _ => ?_)
  refine g_iload_n dX10_fine_37 rfl ?_
  refine g_iconstV (v := 4) dX10_fine_38 (by decide) ?_
  refine g_icmp_ne 56 dX10_fine_39 (by decide) (fun _ => ?_) (fun q => absurd q (by decide))
  refine g_iload_n dX10_fine_56 rfl ?_
  refine g_tableIn (off := 125) 182 dX10_fine_57 (by rw [show (9 : Int32) = 9 from rfl]; decide) (by rw [show (9 : Int32) = 9 from rfl]; decide) (by rw [show (9 : Int32) = 9 from rfl]; rfl) (by decide) ?_
  refine g_iload_n dX10_fine_182 rfl ?_
  refine g_dload_n dX10_fine_183 rfl ?_
  refine g_dload dX10_fine_184 rfl ?_
  refine g_callS (d1 := d - 1) (As := [_, _, _]) dX10_fine_186 sX10_304 (by omega) rfl rfl (Nat.le_of_ble_eq_true rfl) ?_
  refine m_chosen (by omega) hx hy ?_
  refine g_dstore dX10_fine_189 (by decide) rfl ?_
  refine g_aload_n dX10_fine_191 rfl ?_
  refine g_aload_n dX10_fine_192 rfl ?_
  refine mg_getA 2 2 dX10_fine_193 fX10_16 rfl rt_2 hS ?_
  refine g_iload_n dX10_fine_196 rfl ?_
  refine mg_iald dX10_fine_197 rfl rfl rfl (by omega) hS ?_
  rw [hb]
  refine g_dload dX10_fine_198 rfl ?_
  refine g_callV (d1 := d - 1) (As := [_, _]) 9 dX10_fine_200 vX10_308 (by omega) (mg_ob hS) rfl rfl (Nat.le_of_ble_eq_true rfl) ?_
  refine m_turn (by omega) hS hb2 hn hn2 (fun q => ?_) (fun q => ?_)
  · refine g_vret dX10_fine_203 rfl ?_
    exact k1 q
  · refine g_vret dX10_fine_203 rfl ?_
    exact k2 q
set_option maxHeartbeats 4000000 in
set_option maxRecDepth 20000 in
theorem m_fine10 {g : GE} {d : Nat} {w : GW} {σ : MW} {Q : Option Value → GW → Prop} (hd : 6 ≤ d) (hS : SK g w) {p b c n : Nat} (hp : p < 160) (ha : mA σ 1 p = 10) (hb : mA σ 2 p = nI b) (hb2 : b < 8) (hc : mA σ 3 p = nI c) (hc2 : c < 8) (hn : mI σ 22 = nI n) (hn2 : n < 600) (hx : DF (mD σ 11 b)) (hy : DF (mD σ 11 c)) (k1 : fBeyond (fFine 10 (mD σ 11 b) (mD σ 11 c)) → Q none (put g (mFail σ n 8) w)) (k2 : ¬ fBeyond (fFine 10 (mD σ 11 b) (mD σ 11 c)) → Q none (put g (sD σ 11 b (fFine 10 (mD σ 11 b) (mD σ 11 c))) w)) : gM g d mX10_fine [.ref (eB g + 70), .int (nI p)] (put g σ w) Q := by
  refine gM.of (by decide) (Nat.le_of_ble_eq_true rfl) ?_
  have ev : fFine 10 (mD σ 11 b) (mD σ 11 c) = mChosen 10 (mD σ 11 b) (mD σ 11 c) := by simp [fFine]
  rw [ev] at k1 k2
  refine g_aload_n dX10_fine_0 rfl ?_
  refine mg_getA 1 1 dX10_fine_1 fX10_13 rfl rt_1 hS ?_
  refine g_iload_n dX10_fine_4 rfl ?_
  refine mg_iald dX10_fine_5 rfl rfl rfl (by omega) hS ?_
  rw [ha]
  refine g_istore_n dX10_fine_6 (by decide) rfl ?_
  refine g_aload_n dX10_fine_7 rfl ?_
  refine mg_getA 12 11 dX10_fine_8 fX10_43 rfl rt_11 hS ?_
  refine g_aload_n dX10_fine_11 rfl ?_
  refine mg_getA 2 2 dX10_fine_12 fX10_16 rfl rt_2 hS ?_
  refine g_iload_n dX10_fine_15 rfl ?_
  refine mg_iald dX10_fine_16 rfl rfl rfl (by omega) hS ?_
  rw [hb]
  refine mg_dald dX10_fine_17 (by first | exact rfl | assumption) rfl rfl (by omega) hS ?_
  refine g_dstore_n dX10_fine_18 (by decide) rfl ?_
  refine g_aload_n dX10_fine_19 rfl ?_
  refine mg_getA 12 11 dX10_fine_20 fX10_43 rfl rt_11 hS ?_
  refine g_aload_n dX10_fine_23 rfl ?_
  refine mg_getA 3 3 dX10_fine_24 fX10_19 rfl rt_3 hS ?_
  refine g_iload_n dX10_fine_27 rfl ?_
  refine mg_iald dX10_fine_28 rfl rfl rfl (by omega) hS ?_
  rw [hc]
  refine mg_dald dX10_fine_29 (by first | exact rfl | assumption) rfl rfl (by omega) hS ?_
  refine g_dstore dX10_fine_30 (by decide) rfl ?_
  refine g_iload_n dX10_fine_32 rfl ?_
  refine g_iconstV (v := 3) dX10_fine_33 (by decide) ?_
  refine g_icmp_eq 42 dX10_fine_34 (by decide) (fun q => absurd q (by decide)) (fun _ => ?_)
  refine g_iload_n dX10_fine_37 rfl ?_
  refine g_iconstV (v := 4) dX10_fine_38 (by decide) ?_
  refine g_icmp_ne 56 dX10_fine_39 (by decide) (fun _ => ?_) (fun q => absurd q (by decide))
  refine g_iload_n dX10_fine_56 rfl ?_
  refine g_tableIn (off := 125) 182 dX10_fine_57 (by rw [show (10 : Int32) = 10 from rfl]; decide) (by rw [show (10 : Int32) = 10 from rfl]; decide) (by rw [show (10 : Int32) = 10 from rfl]; rfl) (by decide) ?_
  refine g_iload_n dX10_fine_182 rfl ?_
  refine g_dload_n dX10_fine_183 rfl ?_
  refine g_dload dX10_fine_184 rfl ?_
  refine g_callS (d1 := d - 1) (As := [_, _, _]) dX10_fine_186 sX10_304 (by omega) rfl rfl (Nat.le_of_ble_eq_true rfl) ?_
  refine m_chosen (by omega) hx hy ?_
  refine g_dstore dX10_fine_189 (by decide) rfl ?_
  refine g_aload_n dX10_fine_191 rfl ?_
  refine g_aload_n dX10_fine_192 rfl ?_
  refine mg_getA 2 2 dX10_fine_193 fX10_16 rfl rt_2 hS ?_
  refine g_iload_n dX10_fine_196 rfl ?_
  refine mg_iald dX10_fine_197 rfl rfl rfl (by omega) hS ?_
  rw [hb]
  refine g_dload dX10_fine_198 rfl ?_
  refine g_callV (d1 := d - 1) (As := [_, _]) 9 dX10_fine_200 vX10_308 (by omega) (mg_ob hS) rfl rfl (Nat.le_of_ble_eq_true rfl) ?_
  refine m_turn (by omega) hS hb2 hn hn2 (fun q => ?_) (fun q => ?_)
  · refine g_vret dX10_fine_203 rfl ?_
    exact k1 q
  · refine g_vret dX10_fine_203 rfl ?_
    exact k2 q
set_option maxHeartbeats 4000000 in
set_option maxRecDepth 20000 in
theorem m_fine11 {g : GE} {d : Nat} {w : GW} {σ : MW} {Q : Option Value → GW → Prop} (hd : 6 ≤ d) (hS : SK g w) {p b c n : Nat} (hp : p < 160) (ha : mA σ 1 p = 11) (hb : mA σ 2 p = nI b) (hb2 : b < 8) (hc : mA σ 3 p = nI c) (hc2 : c < 8) (hn : mI σ 22 = nI n) (hn2 : n < 600) (hx : DF (mD σ 11 b)) (hy : DF (mD σ 11 c)) (k1 : fBeyond (fFine 11 (mD σ 11 b) (mD σ 11 c)) → Q none (put g (mFail σ n 8) w)) (k2 : ¬ fBeyond (fFine 11 (mD σ 11 b) (mD σ 11 c)) → Q none (put g (sD σ 11 b (fFine 11 (mD σ 11 b) (mD σ 11 c))) w)) : gM g d mX10_fine [.ref (eB g + 70), .int (nI p)] (put g σ w) Q := by
  refine gM.of (by decide) (Nat.le_of_ble_eq_true rfl) ?_
  have ev : fFine 11 (mD σ 11 b) (mD σ 11 c) = mChosen 11 (mD σ 11 b) (mD σ 11 c) := by simp [fFine]
  rw [ev] at k1 k2
  refine g_aload_n dX10_fine_0 rfl ?_
  refine mg_getA 1 1 dX10_fine_1 fX10_13 rfl rt_1 hS ?_
  refine g_iload_n dX10_fine_4 rfl ?_
  refine mg_iald dX10_fine_5 rfl rfl rfl (by omega) hS ?_
  rw [ha]
  refine g_istore_n dX10_fine_6 (by decide) rfl ?_
  refine g_aload_n dX10_fine_7 rfl ?_
  refine mg_getA 12 11 dX10_fine_8 fX10_43 rfl rt_11 hS ?_
  refine g_aload_n dX10_fine_11 rfl ?_
  refine mg_getA 2 2 dX10_fine_12 fX10_16 rfl rt_2 hS ?_
  refine g_iload_n dX10_fine_15 rfl ?_
  refine mg_iald dX10_fine_16 rfl rfl rfl (by omega) hS ?_
  rw [hb]
  refine mg_dald dX10_fine_17 (by first | exact rfl | assumption) rfl rfl (by omega) hS ?_
  refine g_dstore_n dX10_fine_18 (by decide) rfl ?_
  refine g_aload_n dX10_fine_19 rfl ?_
  refine mg_getA 12 11 dX10_fine_20 fX10_43 rfl rt_11 hS ?_
  refine g_aload_n dX10_fine_23 rfl ?_
  refine mg_getA 3 3 dX10_fine_24 fX10_19 rfl rt_3 hS ?_
  refine g_iload_n dX10_fine_27 rfl ?_
  refine mg_iald dX10_fine_28 rfl rfl rfl (by omega) hS ?_
  rw [hc]
  refine mg_dald dX10_fine_29 (by first | exact rfl | assumption) rfl rfl (by omega) hS ?_
  refine g_dstore dX10_fine_30 (by decide) rfl ?_
  refine g_iload_n dX10_fine_32 rfl ?_
  refine g_iconstV (v := 3) dX10_fine_33 (by decide) ?_
  refine g_icmp_eq 42 dX10_fine_34 (by decide) (fun q => absurd q (by decide)) (fun _ => ?_)
  refine g_iload_n dX10_fine_37 rfl ?_
  refine g_iconstV (v := 4) dX10_fine_38 (by decide) ?_
  refine g_icmp_ne 56 dX10_fine_39 (by decide) (fun _ => ?_) (fun q => absurd q (by decide))
  refine g_iload_n dX10_fine_56 rfl ?_
  refine g_tableIn (off := 125) 182 dX10_fine_57 (by rw [show (11 : Int32) = 11 from rfl]; decide) (by rw [show (11 : Int32) = 11 from rfl]; decide) (by rw [show (11 : Int32) = 11 from rfl]; rfl) (by decide) ?_
  refine g_iload_n dX10_fine_182 rfl ?_
  refine g_dload_n dX10_fine_183 rfl ?_
  refine g_dload dX10_fine_184 rfl ?_
  refine g_callS (d1 := d - 1) (As := [_, _, _]) dX10_fine_186 sX10_304 (by omega) rfl rfl (Nat.le_of_ble_eq_true rfl) ?_
  refine m_chosen (by omega) hx hy ?_
  refine g_dstore dX10_fine_189 (by decide) rfl ?_
  refine g_aload_n dX10_fine_191 rfl ?_
  refine g_aload_n dX10_fine_192 rfl ?_
  refine mg_getA 2 2 dX10_fine_193 fX10_16 rfl rt_2 hS ?_
  refine g_iload_n dX10_fine_196 rfl ?_
  refine mg_iald dX10_fine_197 rfl rfl rfl (by omega) hS ?_
  rw [hb]
  refine g_dload dX10_fine_198 rfl ?_
  refine g_callV (d1 := d - 1) (As := [_, _]) 9 dX10_fine_200 vX10_308 (by omega) (mg_ob hS) rfl rfl (Nat.le_of_ble_eq_true rfl) ?_
  refine m_turn (by omega) hS hb2 hn hn2 (fun q => ?_) (fun q => ?_)
  · refine g_vret dX10_fine_203 rfl ?_
    exact k1 q
  · refine g_vret dX10_fine_203 rfl ?_
    exact k2 q
set_option maxHeartbeats 4000000 in
set_option maxRecDepth 20000 in
theorem m_fine12 {g : GE} {d : Nat} {w : GW} {σ : MW} {Q : Option Value → GW → Prop} (hd : 6 ≤ d) (hS : SK g w) {p b c n : Nat} (hp : p < 160) (ha : mA σ 1 p = 12) (hb : mA σ 2 p = nI b) (hb2 : b < 8) (hc : mA σ 3 p = nI c) (hc2 : c < 8) (hn : mI σ 22 = nI n) (hn2 : n < 600) (hx : DF (mD σ 11 b)) (hy : DF (mD σ 11 c)) (k1 : fBeyond (fFine 12 (mD σ 11 b) (mD σ 11 c)) → Q none (put g (mFail σ n 8) w)) (k2 : ¬ fBeyond (fFine 12 (mD σ 11 b) (mD σ 11 c)) → Q none (put g (sD σ 11 b (fFine 12 (mD σ 11 b) (mD σ 11 c))) w)) : gM g d mX10_fine [.ref (eB g + 70), .int (nI p)] (put g σ w) Q := by
  refine gM.of (by decide) (Nat.le_of_ble_eq_true rfl) ?_
  have ev : fFine 12 (mD σ 11 b) (mD σ 11 c) = mChosen 12 (mD σ 11 b) (mD σ 11 c) := by simp [fFine]
  rw [ev] at k1 k2
  refine g_aload_n dX10_fine_0 rfl ?_
  refine mg_getA 1 1 dX10_fine_1 fX10_13 rfl rt_1 hS ?_
  refine g_iload_n dX10_fine_4 rfl ?_
  refine mg_iald dX10_fine_5 rfl rfl rfl (by omega) hS ?_
  rw [ha]
  refine g_istore_n dX10_fine_6 (by decide) rfl ?_
  refine g_aload_n dX10_fine_7 rfl ?_
  refine mg_getA 12 11 dX10_fine_8 fX10_43 rfl rt_11 hS ?_
  refine g_aload_n dX10_fine_11 rfl ?_
  refine mg_getA 2 2 dX10_fine_12 fX10_16 rfl rt_2 hS ?_
  refine g_iload_n dX10_fine_15 rfl ?_
  refine mg_iald dX10_fine_16 rfl rfl rfl (by omega) hS ?_
  rw [hb]
  refine mg_dald dX10_fine_17 (by first | exact rfl | assumption) rfl rfl (by omega) hS ?_
  refine g_dstore_n dX10_fine_18 (by decide) rfl ?_
  refine g_aload_n dX10_fine_19 rfl ?_
  refine mg_getA 12 11 dX10_fine_20 fX10_43 rfl rt_11 hS ?_
  refine g_aload_n dX10_fine_23 rfl ?_
  refine mg_getA 3 3 dX10_fine_24 fX10_19 rfl rt_3 hS ?_
  refine g_iload_n dX10_fine_27 rfl ?_
  refine mg_iald dX10_fine_28 rfl rfl rfl (by omega) hS ?_
  rw [hc]
  refine mg_dald dX10_fine_29 (by first | exact rfl | assumption) rfl rfl (by omega) hS ?_
  refine g_dstore dX10_fine_30 (by decide) rfl ?_
  refine g_iload_n dX10_fine_32 rfl ?_
  refine g_iconstV (v := 3) dX10_fine_33 (by decide) ?_
  refine g_icmp_eq 42 dX10_fine_34 (by decide) (fun q => absurd q (by decide)) (fun _ => ?_)
  refine g_iload_n dX10_fine_37 rfl ?_
  refine g_iconstV (v := 4) dX10_fine_38 (by decide) ?_
  refine g_icmp_ne 56 dX10_fine_39 (by decide) (fun _ => ?_) (fun q => absurd q (by decide))
  refine g_iload_n dX10_fine_56 rfl ?_
  refine g_tableIn (off := 125) 182 dX10_fine_57 (by rw [show (12 : Int32) = 12 from rfl]; decide) (by rw [show (12 : Int32) = 12 from rfl]; decide) (by rw [show (12 : Int32) = 12 from rfl]; rfl) (by decide) ?_
  refine g_iload_n dX10_fine_182 rfl ?_
  refine g_dload_n dX10_fine_183 rfl ?_
  refine g_dload dX10_fine_184 rfl ?_
  refine g_callS (d1 := d - 1) (As := [_, _, _]) dX10_fine_186 sX10_304 (by omega) rfl rfl (Nat.le_of_ble_eq_true rfl) ?_
  refine m_chosen (by omega) hx hy ?_
  refine g_dstore dX10_fine_189 (by decide) rfl ?_
  refine g_aload_n dX10_fine_191 rfl ?_
  refine g_aload_n dX10_fine_192 rfl ?_
  refine mg_getA 2 2 dX10_fine_193 fX10_16 rfl rt_2 hS ?_
  refine g_iload_n dX10_fine_196 rfl ?_
  refine mg_iald dX10_fine_197 rfl rfl rfl (by omega) hS ?_
  rw [hb]
  refine g_dload dX10_fine_198 rfl ?_
  refine g_callV (d1 := d - 1) (As := [_, _]) 9 dX10_fine_200 vX10_308 (by omega) (mg_ob hS) rfl rfl (Nat.le_of_ble_eq_true rfl) ?_
  refine m_turn (by omega) hS hb2 hn hn2 (fun q => ?_) (fun q => ?_)
  · refine g_vret dX10_fine_203 rfl ?_
    exact k1 q
  · refine g_vret dX10_fine_203 rfl ?_
    exact k2 q
set_option maxHeartbeats 4000000 in
set_option maxRecDepth 20000 in
theorem m_fine13 {g : GE} {d : Nat} {w : GW} {σ : MW} {Q : Option Value → GW → Prop} (hd : 6 ≤ d) (hS : SK g w) {p b c n : Nat} (hp : p < 160) (ha : mA σ 1 p = 13) (hb : mA σ 2 p = nI b) (hb2 : b < 8) (hc : mA σ 3 p = nI c) (hc2 : c < 8) (hn : mI σ 22 = nI n) (hn2 : n < 600) (hx : DF (mD σ 11 b)) (hy : DF (mD σ 11 c)) (k1 : fBeyond (fFine 13 (mD σ 11 b) (mD σ 11 c)) → Q none (put g (mFail σ n 8) w)) (k2 : ¬ fBeyond (fFine 13 (mD σ 11 b) (mD σ 11 c)) → Q none (put g (sD σ 11 b (fFine 13 (mD σ 11 b) (mD σ 11 c))) w)) : gM g d mX10_fine [.ref (eB g + 70), .int (nI p)] (put g σ w) Q := by
  refine gM.of (by decide) (Nat.le_of_ble_eq_true rfl) ?_
  have ev : fFine 13 (mD σ 11 b) (mD σ 11 c) = FP.l2d (FP.d2l (mD σ 11 c)) := by simp [fFine]
  rw [ev] at k1 k2
  refine g_aload_n dX10_fine_0 rfl ?_
  refine mg_getA 1 1 dX10_fine_1 fX10_13 rfl rt_1 hS ?_
  refine g_iload_n dX10_fine_4 rfl ?_
  refine mg_iald dX10_fine_5 rfl rfl rfl (by omega) hS ?_
  rw [ha]
  refine g_istore_n dX10_fine_6 (by decide) rfl ?_
  refine g_aload_n dX10_fine_7 rfl ?_
  refine mg_getA 12 11 dX10_fine_8 fX10_43 rfl rt_11 hS ?_
  refine g_aload_n dX10_fine_11 rfl ?_
  refine mg_getA 2 2 dX10_fine_12 fX10_16 rfl rt_2 hS ?_
  refine g_iload_n dX10_fine_15 rfl ?_
  refine mg_iald dX10_fine_16 rfl rfl rfl (by omega) hS ?_
  rw [hb]
  refine mg_dald dX10_fine_17 (by first | exact rfl | assumption) rfl rfl (by omega) hS ?_
  refine g_dstore_n dX10_fine_18 (by decide) rfl ?_
  refine g_aload_n dX10_fine_19 rfl ?_
  refine mg_getA 12 11 dX10_fine_20 fX10_43 rfl rt_11 hS ?_
  refine g_aload_n dX10_fine_23 rfl ?_
  refine mg_getA 3 3 dX10_fine_24 fX10_19 rfl rt_3 hS ?_
  refine g_iload_n dX10_fine_27 rfl ?_
  refine mg_iald dX10_fine_28 rfl rfl rfl (by omega) hS ?_
  rw [hc]
  refine mg_dald dX10_fine_29 (by first | exact rfl | assumption) rfl rfl (by omega) hS ?_
  refine g_dstore dX10_fine_30 (by decide) rfl ?_
  refine g_iload_n dX10_fine_32 rfl ?_
  refine g_iconstV (v := 3) dX10_fine_33 (by decide) ?_
  refine g_icmp_eq 42 dX10_fine_34 (by decide) (fun q => absurd q (by decide)) (fun _ => ?_)
  refine g_iload_n dX10_fine_37 rfl ?_
  refine g_iconstV (v := 4) dX10_fine_38 (by decide) ?_
  refine g_icmp_ne 56 dX10_fine_39 (by decide) (fun _ => ?_) (fun q => absurd q (by decide))
  refine g_iload_n dX10_fine_56 rfl ?_
  refine g_tableIn (off := 116) 173 dX10_fine_57 (by rw [show (13 : Int32) = 13 from rfl]; decide) (by rw [show (13 : Int32) = 13 from rfl]; decide) (by rw [show (13 : Int32) = 13 from rfl]; rfl) (by decide) ?_
  refine g_dload dX10_fine_173 rfl ?_
  refine g_d2l dX10_fine_175 ?_
  refine g_l2d dX10_fine_176 ?_
  refine g_dstore dX10_fine_177 (by decide) rfl ?_
  refine g_goto 191 dX10_fine_179 (by decide) ?_
  refine g_aload_n dX10_fine_191 rfl ?_
  refine g_aload_n dX10_fine_192 rfl ?_
  refine mg_getA 2 2 dX10_fine_193 fX10_16 rfl rt_2 hS ?_
  refine g_iload_n dX10_fine_196 rfl ?_
  refine mg_iald dX10_fine_197 rfl rfl rfl (by omega) hS ?_
  rw [hb]
  refine g_dload dX10_fine_198 rfl ?_
  refine g_callV (d1 := d - 1) (As := [_, _]) 9 dX10_fine_200 vX10_308 (by omega) (mg_ob hS) rfl rfl (Nat.le_of_ble_eq_true rfl) ?_
  refine m_turn (by omega) hS hb2 hn hn2 (fun q => ?_) (fun q => ?_)
  · refine g_vret dX10_fine_203 rfl ?_
    exact k1 q
  · refine g_vret dX10_fine_203 rfl ?_
    exact k2 q
set_option maxHeartbeats 4000000 in
set_option maxRecDepth 20000 in
theorem m_rough0 {g : GE} {d : Nat} {w : GW} {σ : MW} {Q : Option Value → GW → Prop} (hd : 6 ≤ d) (hS : SK g w) {p b c n : Nat} (hp : p < 160) (ha : mA σ 1 p = 0) (hb : mA σ 2 p = nI b) (hb2 : b < 8) (hc : mA σ 3 p = nI c) (hc2 : c < 8) (hn : mI σ 22 = nI n) (hn2 : n < 600) (hx : DF (mD σ 11 b)) (hy : DF (mD σ 11 c)) (fx : FF (FP.d2f (mD σ 11 b))) (fy : FF (FP.d2f (mD σ 11 c))) (k1 : fBeyond (fRough 0 (FP.d2f (mD σ 11 b)) (FP.d2f (mD σ 11 c))) → Q none (put g (mFail σ n 8) w)) (k2 : ¬ fBeyond (fRough 0 (FP.d2f (mD σ 11 b)) (FP.d2f (mD σ 11 c))) → Q none (put g (sD σ 11 b (fRough 0 (FP.d2f (mD σ 11 b)) (FP.d2f (mD σ 11 c)))) w)) : gM g d mX10_rough [.ref (eB g + 70), .int (nI p)] (put g σ w) Q := by
  refine gM.of (by decide) (Nat.le_of_ble_eq_true rfl) ?_
  have ev : fRough 0 (FP.d2f (mD σ 11 b)) (FP.d2f (mD σ 11 c)) = FP.f2d (FP.fadd (FP.d2f (mD σ 11 b)) (FP.d2f (mD σ 11 c))) := by simp [fRough]
  rw [ev] at k1 k2
  refine g_aload_n dX10_rough_0 rfl ?_
  refine mg_getA 1 1 dX10_rough_1 fX10_13 rfl rt_1 hS ?_
  refine g_iload_n dX10_rough_4 rfl ?_
  refine mg_iald dX10_rough_5 rfl rfl rfl (by omega) hS ?_
  rw [ha]
  refine g_istore_n dX10_rough_6 (by decide) rfl ?_
  refine g_aload_n dX10_rough_7 rfl ?_
  refine mg_getA 12 11 dX10_rough_8 fX10_43 rfl rt_11 hS ?_
  refine g_aload_n dX10_rough_11 rfl ?_
  refine mg_getA 2 2 dX10_rough_12 fX10_16 rfl rt_2 hS ?_
  refine g_iload_n dX10_rough_15 rfl ?_
  refine mg_iald dX10_rough_16 rfl rfl rfl (by omega) hS ?_
  rw [hb]
  refine mg_dald dX10_rough_17 (by first | exact rfl | assumption) rfl rfl (by omega) hS ?_
  refine g_d2f dX10_rough_18 (n32 (nn_d2f hx)) ?_
  refine g_fstore_n dX10_rough_19 (by decide) rfl ?_
  refine g_aload_n dX10_rough_20 rfl ?_
  refine mg_getA 12 11 dX10_rough_21 fX10_43 rfl rt_11 hS ?_
  refine g_aload_n dX10_rough_24 rfl ?_
  refine mg_getA 3 3 dX10_rough_25 fX10_19 rfl rt_3 hS ?_
  refine g_iload_n dX10_rough_28 rfl ?_
  refine mg_iald dX10_rough_29 rfl rfl rfl (by omega) hS ?_
  rw [hc]
  refine mg_dald dX10_rough_30 (by first | exact rfl | assumption) rfl rfl (by omega) hS ?_
  refine g_d2f dX10_rough_31 (n32 (nn_d2f hy)) ?_
  refine g_fstore dX10_rough_32 (by decide) rfl ?_
  refine g_iload_n dX10_rough_34 rfl ?_
  refine g_iconstV (v := 3) dX10_rough_35 (by decide) ?_
  refine g_icmp_eq 44 dX10_rough_36 (by decide) (fun q => absurd q (by decide)) (fun _ => ?_)
  refine g_iload_n dX10_rough_39 rfl ?_
  refine g_iconstV (v := 4) dX10_rough_40 (by decide) ?_
  refine g_icmp_ne 58 dX10_rough_41 (by decide) (fun _ => ?_) (fun q => absurd q (by decide))
  refine g_iload_n dX10_rough_58 rfl ?_
  refine g_tableIn (off := 69) 128 dX10_rough_59 (by rw [show (0 : Int32) = 0 from rfl]; decide) (by rw [show (0 : Int32) = 0 from rfl]; decide) (by rw [show (0 : Int32) = 0 from rfl]; rfl) (by decide) ?_
  refine g_fload_n dX10_rough_128 rfl ?_
  refine g_fload dX10_rough_129 rfl ?_
  refine g_fadd dX10_rough_131 (n32 (f_add fx fy)) ?_
  refine g_f2d dX10_rough_132 (nn32_f2d (f_add fx fy)) ?_
  refine g_dstore dX10_rough_133 (by decide) rfl ?_
  refine g_goto 198 dX10_rough_135 (by decide) ?_
  refine g_aload_n dX10_rough_198 rfl ?_
  refine g_aload_n dX10_rough_199 rfl ?_
  refine mg_getA 2 2 dX10_rough_200 fX10_16 rfl rt_2 hS ?_
  refine g_iload_n dX10_rough_203 rfl ?_
  refine mg_iald dX10_rough_204 rfl rfl rfl (by omega) hS ?_
  rw [hb]
  refine g_dload dX10_rough_205 rfl ?_
  refine g_callV (d1 := d - 1) (As := [_, _]) 9 dX10_rough_207 vX10_308 (by omega) (mg_ob hS) rfl rfl (Nat.le_of_ble_eq_true rfl) ?_
  refine m_turn (by omega) hS hb2 hn hn2 (fun q => ?_) (fun q => ?_)
  · refine g_vret dX10_rough_210 rfl ?_
    exact k1 q
  · refine g_vret dX10_rough_210 rfl ?_
    exact k2 q
set_option maxHeartbeats 4000000 in
set_option maxRecDepth 20000 in
theorem m_rough1 {g : GE} {d : Nat} {w : GW} {σ : MW} {Q : Option Value → GW → Prop} (hd : 6 ≤ d) (hS : SK g w) {p b c n : Nat} (hp : p < 160) (ha : mA σ 1 p = 1) (hb : mA σ 2 p = nI b) (hb2 : b < 8) (hc : mA σ 3 p = nI c) (hc2 : c < 8) (hn : mI σ 22 = nI n) (hn2 : n < 600) (hx : DF (mD σ 11 b)) (hy : DF (mD σ 11 c)) (fx : FF (FP.d2f (mD σ 11 b))) (fy : FF (FP.d2f (mD σ 11 c))) (k1 : fBeyond (fRough 1 (FP.d2f (mD σ 11 b)) (FP.d2f (mD σ 11 c))) → Q none (put g (mFail σ n 8) w)) (k2 : ¬ fBeyond (fRough 1 (FP.d2f (mD σ 11 b)) (FP.d2f (mD σ 11 c))) → Q none (put g (sD σ 11 b (fRough 1 (FP.d2f (mD σ 11 b)) (FP.d2f (mD σ 11 c)))) w)) : gM g d mX10_rough [.ref (eB g + 70), .int (nI p)] (put g σ w) Q := by
  refine gM.of (by decide) (Nat.le_of_ble_eq_true rfl) ?_
  have ev : fRough 1 (FP.d2f (mD σ 11 b)) (FP.d2f (mD σ 11 c)) = FP.f2d (FP.fsub (FP.d2f (mD σ 11 b)) (FP.d2f (mD σ 11 c))) := by simp [fRough]
  rw [ev] at k1 k2
  refine g_aload_n dX10_rough_0 rfl ?_
  refine mg_getA 1 1 dX10_rough_1 fX10_13 rfl rt_1 hS ?_
  refine g_iload_n dX10_rough_4 rfl ?_
  refine mg_iald dX10_rough_5 rfl rfl rfl (by omega) hS ?_
  rw [ha]
  refine g_istore_n dX10_rough_6 (by decide) rfl ?_
  refine g_aload_n dX10_rough_7 rfl ?_
  refine mg_getA 12 11 dX10_rough_8 fX10_43 rfl rt_11 hS ?_
  refine g_aload_n dX10_rough_11 rfl ?_
  refine mg_getA 2 2 dX10_rough_12 fX10_16 rfl rt_2 hS ?_
  refine g_iload_n dX10_rough_15 rfl ?_
  refine mg_iald dX10_rough_16 rfl rfl rfl (by omega) hS ?_
  rw [hb]
  refine mg_dald dX10_rough_17 (by first | exact rfl | assumption) rfl rfl (by omega) hS ?_
  refine g_d2f dX10_rough_18 (n32 (nn_d2f hx)) ?_
  refine g_fstore_n dX10_rough_19 (by decide) rfl ?_
  refine g_aload_n dX10_rough_20 rfl ?_
  refine mg_getA 12 11 dX10_rough_21 fX10_43 rfl rt_11 hS ?_
  refine g_aload_n dX10_rough_24 rfl ?_
  refine mg_getA 3 3 dX10_rough_25 fX10_19 rfl rt_3 hS ?_
  refine g_iload_n dX10_rough_28 rfl ?_
  refine mg_iald dX10_rough_29 rfl rfl rfl (by omega) hS ?_
  rw [hc]
  refine mg_dald dX10_rough_30 (by first | exact rfl | assumption) rfl rfl (by omega) hS ?_
  refine g_d2f dX10_rough_31 (n32 (nn_d2f hy)) ?_
  refine g_fstore dX10_rough_32 (by decide) rfl ?_
  refine g_iload_n dX10_rough_34 rfl ?_
  refine g_iconstV (v := 3) dX10_rough_35 (by decide) ?_
  refine g_icmp_eq 44 dX10_rough_36 (by decide) (fun q => absurd q (by decide)) (fun _ => ?_)
  refine g_iload_n dX10_rough_39 rfl ?_
  refine g_iconstV (v := 4) dX10_rough_40 (by decide) ?_
  refine g_icmp_ne 58 dX10_rough_41 (by decide) (fun _ => ?_) (fun q => absurd q (by decide))
  refine g_iload_n dX10_rough_58 rfl ?_
  refine g_tableIn (off := 79) 138 dX10_rough_59 (by rw [show (1 : Int32) = 1 from rfl]; decide) (by rw [show (1 : Int32) = 1 from rfl]; decide) (by rw [show (1 : Int32) = 1 from rfl]; rfl) (by decide) ?_
  refine g_fload_n dX10_rough_138 rfl ?_
  refine g_fload dX10_rough_139 rfl ?_
  refine g_fsub dX10_rough_141 (n32 (f_sub fx fy)) ?_
  refine g_f2d dX10_rough_142 (nn32_f2d (f_sub fx fy)) ?_
  refine g_dstore dX10_rough_143 (by decide) rfl ?_
  refine g_goto 198 dX10_rough_145 (by decide) ?_
  refine g_aload_n dX10_rough_198 rfl ?_
  refine g_aload_n dX10_rough_199 rfl ?_
  refine mg_getA 2 2 dX10_rough_200 fX10_16 rfl rt_2 hS ?_
  refine g_iload_n dX10_rough_203 rfl ?_
  refine mg_iald dX10_rough_204 rfl rfl rfl (by omega) hS ?_
  rw [hb]
  refine g_dload dX10_rough_205 rfl ?_
  refine g_callV (d1 := d - 1) (As := [_, _]) 9 dX10_rough_207 vX10_308 (by omega) (mg_ob hS) rfl rfl (Nat.le_of_ble_eq_true rfl) ?_
  refine m_turn (by omega) hS hb2 hn hn2 (fun q => ?_) (fun q => ?_)
  · refine g_vret dX10_rough_210 rfl ?_
    exact k1 q
  · refine g_vret dX10_rough_210 rfl ?_
    exact k2 q
set_option maxHeartbeats 4000000 in
set_option maxRecDepth 20000 in
theorem m_rough2 {g : GE} {d : Nat} {w : GW} {σ : MW} {Q : Option Value → GW → Prop} (hd : 6 ≤ d) (hS : SK g w) {p b c n : Nat} (hp : p < 160) (ha : mA σ 1 p = 2) (hb : mA σ 2 p = nI b) (hb2 : b < 8) (hc : mA σ 3 p = nI c) (hc2 : c < 8) (hn : mI σ 22 = nI n) (hn2 : n < 600) (hx : DF (mD σ 11 b)) (hy : DF (mD σ 11 c)) (fx : FF (FP.d2f (mD σ 11 b))) (fy : FF (FP.d2f (mD σ 11 c))) (k1 : fBeyond (fRough 2 (FP.d2f (mD σ 11 b)) (FP.d2f (mD σ 11 c))) → Q none (put g (mFail σ n 8) w)) (k2 : ¬ fBeyond (fRough 2 (FP.d2f (mD σ 11 b)) (FP.d2f (mD σ 11 c))) → Q none (put g (sD σ 11 b (fRough 2 (FP.d2f (mD σ 11 b)) (FP.d2f (mD σ 11 c)))) w)) : gM g d mX10_rough [.ref (eB g + 70), .int (nI p)] (put g σ w) Q := by
  refine gM.of (by decide) (Nat.le_of_ble_eq_true rfl) ?_
  have ev : fRough 2 (FP.d2f (mD σ 11 b)) (FP.d2f (mD σ 11 c)) = FP.f2d (FP.fmul (FP.d2f (mD σ 11 b)) (FP.d2f (mD σ 11 c))) := by simp [fRough]
  rw [ev] at k1 k2
  refine g_aload_n dX10_rough_0 rfl ?_
  refine mg_getA 1 1 dX10_rough_1 fX10_13 rfl rt_1 hS ?_
  refine g_iload_n dX10_rough_4 rfl ?_
  refine mg_iald dX10_rough_5 rfl rfl rfl (by omega) hS ?_
  rw [ha]
  refine g_istore_n dX10_rough_6 (by decide) rfl ?_
  refine g_aload_n dX10_rough_7 rfl ?_
  refine mg_getA 12 11 dX10_rough_8 fX10_43 rfl rt_11 hS ?_
  refine g_aload_n dX10_rough_11 rfl ?_
  refine mg_getA 2 2 dX10_rough_12 fX10_16 rfl rt_2 hS ?_
  refine g_iload_n dX10_rough_15 rfl ?_
  refine mg_iald dX10_rough_16 rfl rfl rfl (by omega) hS ?_
  rw [hb]
  refine mg_dald dX10_rough_17 (by first | exact rfl | assumption) rfl rfl (by omega) hS ?_
  refine g_d2f dX10_rough_18 (n32 (nn_d2f hx)) ?_
  refine g_fstore_n dX10_rough_19 (by decide) rfl ?_
  refine g_aload_n dX10_rough_20 rfl ?_
  refine mg_getA 12 11 dX10_rough_21 fX10_43 rfl rt_11 hS ?_
  refine g_aload_n dX10_rough_24 rfl ?_
  refine mg_getA 3 3 dX10_rough_25 fX10_19 rfl rt_3 hS ?_
  refine g_iload_n dX10_rough_28 rfl ?_
  refine mg_iald dX10_rough_29 rfl rfl rfl (by omega) hS ?_
  rw [hc]
  refine mg_dald dX10_rough_30 (by first | exact rfl | assumption) rfl rfl (by omega) hS ?_
  refine g_d2f dX10_rough_31 (n32 (nn_d2f hy)) ?_
  refine g_fstore dX10_rough_32 (by decide) rfl ?_
  refine g_iload_n dX10_rough_34 rfl ?_
  refine g_iconstV (v := 3) dX10_rough_35 (by decide) ?_
  refine g_icmp_eq 44 dX10_rough_36 (by decide) (fun q => absurd q (by decide)) (fun _ => ?_)
  refine g_iload_n dX10_rough_39 rfl ?_
  refine g_iconstV (v := 4) dX10_rough_40 (by decide) ?_
  refine g_icmp_ne 58 dX10_rough_41 (by decide) (fun _ => ?_) (fun q => absurd q (by decide))
  refine g_iload_n dX10_rough_58 rfl ?_
  refine g_tableIn (off := 89) 148 dX10_rough_59 (by rw [show (2 : Int32) = 2 from rfl]; decide) (by rw [show (2 : Int32) = 2 from rfl]; decide) (by rw [show (2 : Int32) = 2 from rfl]; rfl) (by decide) ?_
  refine g_fload_n dX10_rough_148 rfl ?_
  refine g_fload dX10_rough_149 rfl ?_
  refine g_fmul dX10_rough_151 (n32 (f_mul fx fy)) ?_
  refine g_f2d dX10_rough_152 (nn32_f2d (f_mul fx fy)) ?_
  refine g_dstore dX10_rough_153 (by decide) rfl ?_
  refine g_goto 198 dX10_rough_155 (by decide) ?_
  refine g_aload_n dX10_rough_198 rfl ?_
  refine g_aload_n dX10_rough_199 rfl ?_
  refine mg_getA 2 2 dX10_rough_200 fX10_16 rfl rt_2 hS ?_
  refine g_iload_n dX10_rough_203 rfl ?_
  refine mg_iald dX10_rough_204 rfl rfl rfl (by omega) hS ?_
  rw [hb]
  refine g_dload dX10_rough_205 rfl ?_
  refine g_callV (d1 := d - 1) (As := [_, _]) 9 dX10_rough_207 vX10_308 (by omega) (mg_ob hS) rfl rfl (Nat.le_of_ble_eq_true rfl) ?_
  refine m_turn (by omega) hS hb2 hn hn2 (fun q => ?_) (fun q => ?_)
  · refine g_vret dX10_rough_210 rfl ?_
    exact k1 q
  · refine g_vret dX10_rough_210 rfl ?_
    exact k2 q
set_option maxHeartbeats 4000000 in
set_option maxRecDepth 20000 in
theorem m_rough3z {g : GE} {d : Nat} {w : GW} {σ : MW} {Q : Option Value → GW → Prop} (hd : 2 ≤ d) (hS : SK g w) {p b c n : Nat} (hp : p < 160) (ha : mA σ 1 p = 3) (hb : mA σ 2 p = nI b) (hb2 : b < 8) (hc : mA σ 3 p = nI c) (hc2 : c < 8) (hn : mI σ 22 = nI n) (hn2 : n < 600) (hx : DF (mD σ 11 b)) (hy : DF (mD σ 11 c)) (fx : FF (FP.d2f (mD σ 11 b))) (fy : FF (FP.d2f (mD σ 11 c))) (hz : FP.fcmp (FP.d2f (mD σ 11 c)) FP.fconst0 = some .eq) (k : Q none (put g (mFail σ n 7) w)) : gM g d mX10_rough [.ref (eB g + 70), .int (nI p)] (put g σ w) Q := by
  refine gM.of (by decide) (Nat.le_of_ble_eq_true rfl) ?_
  refine g_aload_n dX10_rough_0 rfl ?_
  refine mg_getA 1 1 dX10_rough_1 fX10_13 rfl rt_1 hS ?_
  refine g_iload_n dX10_rough_4 rfl ?_
  refine mg_iald dX10_rough_5 rfl rfl rfl (by omega) hS ?_
  rw [ha]
  refine g_istore_n dX10_rough_6 (by decide) rfl ?_
  refine g_aload_n dX10_rough_7 rfl ?_
  refine mg_getA 12 11 dX10_rough_8 fX10_43 rfl rt_11 hS ?_
  refine g_aload_n dX10_rough_11 rfl ?_
  refine mg_getA 2 2 dX10_rough_12 fX10_16 rfl rt_2 hS ?_
  refine g_iload_n dX10_rough_15 rfl ?_
  refine mg_iald dX10_rough_16 rfl rfl rfl (by omega) hS ?_
  rw [hb]
  refine mg_dald dX10_rough_17 (by first | exact rfl | assumption) rfl rfl (by omega) hS ?_
  refine g_d2f dX10_rough_18 (n32 (nn_d2f hx)) ?_
  refine g_fstore_n dX10_rough_19 (by decide) rfl ?_
  refine g_aload_n dX10_rough_20 rfl ?_
  refine mg_getA 12 11 dX10_rough_21 fX10_43 rfl rt_11 hS ?_
  refine g_aload_n dX10_rough_24 rfl ?_
  refine mg_getA 3 3 dX10_rough_25 fX10_19 rfl rt_3 hS ?_
  refine g_iload_n dX10_rough_28 rfl ?_
  refine mg_iald dX10_rough_29 rfl rfl rfl (by omega) hS ?_
  rw [hc]
  refine mg_dald dX10_rough_30 (by first | exact rfl | assumption) rfl rfl (by omega) hS ?_
  refine g_d2f dX10_rough_31 (n32 (nn_d2f hy)) ?_
  refine g_fstore dX10_rough_32 (by decide) rfl ?_
  refine g_iload_n dX10_rough_34 rfl ?_
  refine g_iconstV (v := 3) dX10_rough_35 (by decide) ?_
  refine g_icmp_eq 44 dX10_rough_36 (by decide) (fun _ => ?_) (fun q => absurd (rfl) q)
  refine g_fload dX10_rough_44 rfl ?_
  refine g_fconst0 dX10_rough_46 ?_
  refine g_fcmp dX10_rough_47 ?_
  refine g_if_ne 58 dX10_rough_48 (by decide) (fun q => absurd ((cv_eql _).mpr hz) q) (fun _ => ?_)
  refine g_aload_n dX10_rough_51 rfl ?_
  refine g_bipushV (v := 7) dX10_rough_52 (by decide) ?_
  refine g_callV (d1 := d - 1) (As := [_]) 9 dX10_rough_54 vX10_191 (by omega) (mg_ob hS) rfl rfl (Nat.le_of_ble_eq_true rfl) ?_
  refine m_fail (by omega) hS hn hn2 ?_
  refine g_vret dX10_rough_57 rfl ?_
  exact k
set_option maxHeartbeats 4000000 in
set_option maxRecDepth 20000 in
theorem m_rough3 {g : GE} {d : Nat} {w : GW} {σ : MW} {Q : Option Value → GW → Prop} (hd : 6 ≤ d) (hS : SK g w) {p b c n : Nat} (hp : p < 160) (ha : mA σ 1 p = 3) (hb : mA σ 2 p = nI b) (hb2 : b < 8) (hc : mA σ 3 p = nI c) (hc2 : c < 8) (hn : mI σ 22 = nI n) (hn2 : n < 600) (hx : DF (mD σ 11 b)) (hy : DF (mD σ 11 c)) (fx : FF (FP.d2f (mD σ 11 b))) (fy : FF (FP.d2f (mD σ 11 c))) (hz : ¬ FP.fcmp (FP.d2f (mD σ 11 c)) FP.fconst0 = some .eq) (k1 : fBeyond (fRough 3 (FP.d2f (mD σ 11 b)) (FP.d2f (mD σ 11 c))) → Q none (put g (mFail σ n 8) w)) (k2 : ¬ fBeyond (fRough 3 (FP.d2f (mD σ 11 b)) (FP.d2f (mD σ 11 c))) → Q none (put g (sD σ 11 b (fRough 3 (FP.d2f (mD σ 11 b)) (FP.d2f (mD σ 11 c)))) w)) : gM g d mX10_rough [.ref (eB g + 70), .int (nI p)] (put g σ w) Q := by
  refine gM.of (by decide) (Nat.le_of_ble_eq_true rfl) ?_
  have ev : fRough 3 (FP.d2f (mD σ 11 b)) (FP.d2f (mD σ 11 c)) = FP.f2d (FP.fdiv (FP.d2f (mD σ 11 b)) (FP.d2f (mD σ 11 c))) := by simp [fRough]
  rw [ev] at k1 k2
  refine g_aload_n dX10_rough_0 rfl ?_
  refine mg_getA 1 1 dX10_rough_1 fX10_13 rfl rt_1 hS ?_
  refine g_iload_n dX10_rough_4 rfl ?_
  refine mg_iald dX10_rough_5 rfl rfl rfl (by omega) hS ?_
  rw [ha]
  refine g_istore_n dX10_rough_6 (by decide) rfl ?_
  refine g_aload_n dX10_rough_7 rfl ?_
  refine mg_getA 12 11 dX10_rough_8 fX10_43 rfl rt_11 hS ?_
  refine g_aload_n dX10_rough_11 rfl ?_
  refine mg_getA 2 2 dX10_rough_12 fX10_16 rfl rt_2 hS ?_
  refine g_iload_n dX10_rough_15 rfl ?_
  refine mg_iald dX10_rough_16 rfl rfl rfl (by omega) hS ?_
  rw [hb]
  refine mg_dald dX10_rough_17 (by first | exact rfl | assumption) rfl rfl (by omega) hS ?_
  refine g_d2f dX10_rough_18 (n32 (nn_d2f hx)) ?_
  refine g_fstore_n dX10_rough_19 (by decide) rfl ?_
  refine g_aload_n dX10_rough_20 rfl ?_
  refine mg_getA 12 11 dX10_rough_21 fX10_43 rfl rt_11 hS ?_
  refine g_aload_n dX10_rough_24 rfl ?_
  refine mg_getA 3 3 dX10_rough_25 fX10_19 rfl rt_3 hS ?_
  refine g_iload_n dX10_rough_28 rfl ?_
  refine mg_iald dX10_rough_29 rfl rfl rfl (by omega) hS ?_
  rw [hc]
  refine mg_dald dX10_rough_30 (by first | exact rfl | assumption) rfl rfl (by omega) hS ?_
  refine g_d2f dX10_rough_31 (n32 (nn_d2f hy)) ?_
  refine g_fstore dX10_rough_32 (by decide) rfl ?_
  refine g_iload_n dX10_rough_34 rfl ?_
  refine g_iconstV (v := 3) dX10_rough_35 (by decide) ?_
  refine g_icmp_eq 44 dX10_rough_36 (by decide) (fun _ => ?_) (fun q => absurd (rfl) q)
  refine g_fload dX10_rough_44 rfl ?_
  refine g_fconst0 dX10_rough_46 ?_
  refine g_fcmp dX10_rough_47 ?_
  refine g_if_ne 58 dX10_rough_48 (by decide) (fun _ => ?_) (fun q => absurd q (fun q => hz ((cv_eql _).mp q)))
  refine g_iload_n dX10_rough_58 rfl ?_
  refine g_tableIn (off := 99) 158 dX10_rough_59 (by rw [show (3 : Int32) = 3 from rfl]; decide) (by rw [show (3 : Int32) = 3 from rfl]; decide) (by rw [show (3 : Int32) = 3 from rfl]; rfl) (by decide) ?_
  refine g_fload_n dX10_rough_158 rfl ?_
  refine g_fload dX10_rough_159 rfl ?_
  refine g_fdiv dX10_rough_161 (n32 (f_div fx fy hz)) ?_
  refine g_f2d dX10_rough_162 (nn32_f2d (f_div fx fy hz)) ?_
  refine g_dstore dX10_rough_163 (by decide) rfl ?_
  refine g_goto 198 dX10_rough_165 (by decide) ?_
  refine g_aload_n dX10_rough_198 rfl ?_
  refine g_aload_n dX10_rough_199 rfl ?_
  refine mg_getA 2 2 dX10_rough_200 fX10_16 rfl rt_2 hS ?_
  refine g_iload_n dX10_rough_203 rfl ?_
  refine mg_iald dX10_rough_204 rfl rfl rfl (by omega) hS ?_
  rw [hb]
  refine g_dload dX10_rough_205 rfl ?_
  refine g_callV (d1 := d - 1) (As := [_, _]) 9 dX10_rough_207 vX10_308 (by omega) (mg_ob hS) rfl rfl (Nat.le_of_ble_eq_true rfl) ?_
  refine m_turn (by omega) hS hb2 hn hn2 (fun q => ?_) (fun q => ?_)
  · refine g_vret dX10_rough_210 rfl ?_
    exact k1 q
  · refine g_vret dX10_rough_210 rfl ?_
    exact k2 q
set_option maxHeartbeats 4000000 in
set_option maxRecDepth 20000 in
theorem m_rough4z {g : GE} {d : Nat} {w : GW} {σ : MW} {Q : Option Value → GW → Prop} (hd : 2 ≤ d) (hS : SK g w) {p b c n : Nat} (hp : p < 160) (ha : mA σ 1 p = 4) (hb : mA σ 2 p = nI b) (hb2 : b < 8) (hc : mA σ 3 p = nI c) (hc2 : c < 8) (hn : mI σ 22 = nI n) (hn2 : n < 600) (hx : DF (mD σ 11 b)) (hy : DF (mD σ 11 c)) (fx : FF (FP.d2f (mD σ 11 b))) (fy : FF (FP.d2f (mD σ 11 c))) (hz : FP.fcmp (FP.d2f (mD σ 11 c)) FP.fconst0 = some .eq) (k : Q none (put g (mFail σ n 7) w)) : gM g d mX10_rough [.ref (eB g + 70), .int (nI p)] (put g σ w) Q := by
  refine gM.of (by decide) (Nat.le_of_ble_eq_true rfl) ?_
  refine g_aload_n dX10_rough_0 rfl ?_
  refine mg_getA 1 1 dX10_rough_1 fX10_13 rfl rt_1 hS ?_
  refine g_iload_n dX10_rough_4 rfl ?_
  refine mg_iald dX10_rough_5 rfl rfl rfl (by omega) hS ?_
  rw [ha]
  refine g_istore_n dX10_rough_6 (by decide) rfl ?_
  refine g_aload_n dX10_rough_7 rfl ?_
  refine mg_getA 12 11 dX10_rough_8 fX10_43 rfl rt_11 hS ?_
  refine g_aload_n dX10_rough_11 rfl ?_
  refine mg_getA 2 2 dX10_rough_12 fX10_16 rfl rt_2 hS ?_
  refine g_iload_n dX10_rough_15 rfl ?_
  refine mg_iald dX10_rough_16 rfl rfl rfl (by omega) hS ?_
  rw [hb]
  refine mg_dald dX10_rough_17 (by first | exact rfl | assumption) rfl rfl (by omega) hS ?_
  refine g_d2f dX10_rough_18 (n32 (nn_d2f hx)) ?_
  refine g_fstore_n dX10_rough_19 (by decide) rfl ?_
  refine g_aload_n dX10_rough_20 rfl ?_
  refine mg_getA 12 11 dX10_rough_21 fX10_43 rfl rt_11 hS ?_
  refine g_aload_n dX10_rough_24 rfl ?_
  refine mg_getA 3 3 dX10_rough_25 fX10_19 rfl rt_3 hS ?_
  refine g_iload_n dX10_rough_28 rfl ?_
  refine mg_iald dX10_rough_29 rfl rfl rfl (by omega) hS ?_
  rw [hc]
  refine mg_dald dX10_rough_30 (by first | exact rfl | assumption) rfl rfl (by omega) hS ?_
  refine g_d2f dX10_rough_31 (n32 (nn_d2f hy)) ?_
  refine g_fstore dX10_rough_32 (by decide) rfl ?_
  refine g_iload_n dX10_rough_34 rfl ?_
  refine g_iconstV (v := 3) dX10_rough_35 (by decide) ?_
  refine g_icmp_eq 44 dX10_rough_36 (by decide) (fun q => absurd q (by decide)) (fun _ => ?_)
  refine g_iload_n dX10_rough_39 rfl ?_
  refine g_iconstV (v := 4) dX10_rough_40 (by decide) ?_
  refine g_icmp_ne 58 dX10_rough_41 (by decide) (fun q => absurd (rfl) q) (fun _ => ?_)
  refine g_fload dX10_rough_44 rfl ?_
  refine g_fconst0 dX10_rough_46 ?_
  refine g_fcmp dX10_rough_47 ?_
  refine g_if_ne 58 dX10_rough_48 (by decide) (fun q => absurd ((cv_eql _).mpr hz) q) (fun _ => ?_)
  refine g_aload_n dX10_rough_51 rfl ?_
  refine g_bipushV (v := 7) dX10_rough_52 (by decide) ?_
  refine g_callV (d1 := d - 1) (As := [_]) 9 dX10_rough_54 vX10_191 (by omega) (mg_ob hS) rfl rfl (Nat.le_of_ble_eq_true rfl) ?_
  refine m_fail (by omega) hS hn hn2 ?_
  refine g_vret dX10_rough_57 rfl ?_
  exact k
set_option maxHeartbeats 4000000 in
set_option maxRecDepth 20000 in
theorem m_rough4 {g : GE} {d : Nat} {w : GW} {σ : MW} {Q : Option Value → GW → Prop} (hd : 6 ≤ d) (hS : SK g w) {p b c n : Nat} (hp : p < 160) (ha : mA σ 1 p = 4) (hb : mA σ 2 p = nI b) (hb2 : b < 8) (hc : mA σ 3 p = nI c) (hc2 : c < 8) (hn : mI σ 22 = nI n) (hn2 : n < 600) (hx : DF (mD σ 11 b)) (hy : DF (mD σ 11 c)) (fx : FF (FP.d2f (mD σ 11 b))) (fy : FF (FP.d2f (mD σ 11 c))) (hz : ¬ FP.fcmp (FP.d2f (mD σ 11 c)) FP.fconst0 = some .eq) (k1 : fBeyond (fRough 4 (FP.d2f (mD σ 11 b)) (FP.d2f (mD σ 11 c))) → Q none (put g (mFail σ n 8) w)) (k2 : ¬ fBeyond (fRough 4 (FP.d2f (mD σ 11 b)) (FP.d2f (mD σ 11 c))) → Q none (put g (sD σ 11 b (fRough 4 (FP.d2f (mD σ 11 b)) (FP.d2f (mD σ 11 c)))) w)) : gM g d mX10_rough [.ref (eB g + 70), .int (nI p)] (put g σ w) Q := by
  refine gM.of (by decide) (Nat.le_of_ble_eq_true rfl) ?_
  have ev : fRough 4 (FP.d2f (mD σ 11 b)) (FP.d2f (mD σ 11 c)) = FP.f2d (FP.frem (FP.d2f (mD σ 11 b)) (FP.d2f (mD σ 11 c))) := by simp [fRough]
  rw [ev] at k1 k2
  refine g_aload_n dX10_rough_0 rfl ?_
  refine mg_getA 1 1 dX10_rough_1 fX10_13 rfl rt_1 hS ?_
  refine g_iload_n dX10_rough_4 rfl ?_
  refine mg_iald dX10_rough_5 rfl rfl rfl (by omega) hS ?_
  rw [ha]
  refine g_istore_n dX10_rough_6 (by decide) rfl ?_
  refine g_aload_n dX10_rough_7 rfl ?_
  refine mg_getA 12 11 dX10_rough_8 fX10_43 rfl rt_11 hS ?_
  refine g_aload_n dX10_rough_11 rfl ?_
  refine mg_getA 2 2 dX10_rough_12 fX10_16 rfl rt_2 hS ?_
  refine g_iload_n dX10_rough_15 rfl ?_
  refine mg_iald dX10_rough_16 rfl rfl rfl (by omega) hS ?_
  rw [hb]
  refine mg_dald dX10_rough_17 (by first | exact rfl | assumption) rfl rfl (by omega) hS ?_
  refine g_d2f dX10_rough_18 (n32 (nn_d2f hx)) ?_
  refine g_fstore_n dX10_rough_19 (by decide) rfl ?_
  refine g_aload_n dX10_rough_20 rfl ?_
  refine mg_getA 12 11 dX10_rough_21 fX10_43 rfl rt_11 hS ?_
  refine g_aload_n dX10_rough_24 rfl ?_
  refine mg_getA 3 3 dX10_rough_25 fX10_19 rfl rt_3 hS ?_
  refine g_iload_n dX10_rough_28 rfl ?_
  refine mg_iald dX10_rough_29 rfl rfl rfl (by omega) hS ?_
  rw [hc]
  refine mg_dald dX10_rough_30 (by first | exact rfl | assumption) rfl rfl (by omega) hS ?_
  refine g_d2f dX10_rough_31 (n32 (nn_d2f hy)) ?_
  refine g_fstore dX10_rough_32 (by decide) rfl ?_
  refine g_iload_n dX10_rough_34 rfl ?_
  refine g_iconstV (v := 3) dX10_rough_35 (by decide) ?_
  refine g_icmp_eq 44 dX10_rough_36 (by decide) (fun q => absurd q (by decide)) (fun _ => ?_)
  refine g_iload_n dX10_rough_39 rfl ?_
  refine g_iconstV (v := 4) dX10_rough_40 (by decide) ?_
  refine g_icmp_ne 58 dX10_rough_41 (by decide) (fun q => absurd (rfl) q) (fun _ => ?_)
  refine g_fload dX10_rough_44 rfl ?_
  refine g_fconst0 dX10_rough_46 ?_
  refine g_fcmp dX10_rough_47 ?_
  refine g_if_ne 58 dX10_rough_48 (by decide) (fun _ => ?_) (fun q => absurd q (fun q => hz ((cv_eql _).mp q)))
  refine g_iload_n dX10_rough_58 rfl ?_
  refine g_tableIn (off := 109) 168 dX10_rough_59 (by rw [show (4 : Int32) = 4 from rfl]; decide) (by rw [show (4 : Int32) = 4 from rfl]; decide) (by rw [show (4 : Int32) = 4 from rfl]; rfl) (by decide) ?_
  refine g_fload_n dX10_rough_168 rfl ?_
  refine g_fload dX10_rough_169 rfl ?_
  refine g_frem dX10_rough_171 (n32 (f_rem fx fy hz)) ?_
  refine g_f2d dX10_rough_172 (nn32_f2d (f_rem fx fy hz)) ?_
  refine g_dstore dX10_rough_173 (by decide) rfl ?_
  refine g_goto 198 dX10_rough_175 (by decide) ?_
  refine g_aload_n dX10_rough_198 rfl ?_
  refine g_aload_n dX10_rough_199 rfl ?_
  refine mg_getA 2 2 dX10_rough_200 fX10_16 rfl rt_2 hS ?_
  refine g_iload_n dX10_rough_203 rfl ?_
  refine mg_iald dX10_rough_204 rfl rfl rfl (by omega) hS ?_
  rw [hb]
  refine g_dload dX10_rough_205 rfl ?_
  refine g_callV (d1 := d - 1) (As := [_, _]) 9 dX10_rough_207 vX10_308 (by omega) (mg_ob hS) rfl rfl (Nat.le_of_ble_eq_true rfl) ?_
  refine m_turn (by omega) hS hb2 hn hn2 (fun q => ?_) (fun q => ?_)
  · refine g_vret dX10_rough_210 rfl ?_
    exact k1 q
  · refine g_vret dX10_rough_210 rfl ?_
    exact k2 q
set_option maxHeartbeats 4000000 in
set_option maxRecDepth 20000 in
theorem m_rough5 {g : GE} {d : Nat} {w : GW} {σ : MW} {Q : Option Value → GW → Prop} (hd : 6 ≤ d) (hS : SK g w) {p b c n : Nat} (hp : p < 160) (ha : mA σ 1 p = 5) (hb : mA σ 2 p = nI b) (hb2 : b < 8) (hc : mA σ 3 p = nI c) (hc2 : c < 8) (hn : mI σ 22 = nI n) (hn2 : n < 600) (hx : DF (mD σ 11 b)) (hy : DF (mD σ 11 c)) (fx : FF (FP.d2f (mD σ 11 b))) (fy : FF (FP.d2f (mD σ 11 c))) (k1 : fBeyond (fRough 5 (FP.d2f (mD σ 11 b)) (FP.d2f (mD σ 11 c))) → Q none (put g (mFail σ n 8) w)) (k2 : ¬ fBeyond (fRough 5 (FP.d2f (mD σ 11 b)) (FP.d2f (mD σ 11 c))) → Q none (put g (sD σ 11 b (fRough 5 (FP.d2f (mD σ 11 b)) (FP.d2f (mD σ 11 c)))) w)) : gM g d mX10_rough [.ref (eB g + 70), .int (nI p)] (put g σ w) Q := by
  refine gM.of (by decide) (Nat.le_of_ble_eq_true rfl) ?_
  have ev : fRough 5 (FP.d2f (mD σ 11 b)) (FP.d2f (mD σ 11 c)) = mChosen 5 (FP.f2d (FP.d2f (mD σ 11 b))) (FP.f2d (FP.d2f (mD σ 11 c))) := by simp [fRough]
  rw [ev] at k1 k2
  refine g_aload_n dX10_rough_0 rfl ?_
  refine mg_getA 1 1 dX10_rough_1 fX10_13 rfl rt_1 hS ?_
  refine g_iload_n dX10_rough_4 rfl ?_
  refine mg_iald dX10_rough_5 rfl rfl rfl (by omega) hS ?_
  rw [ha]
  refine g_istore_n dX10_rough_6 (by decide) rfl ?_
  refine g_aload_n dX10_rough_7 rfl ?_
  refine mg_getA 12 11 dX10_rough_8 fX10_43 rfl rt_11 hS ?_
  refine g_aload_n dX10_rough_11 rfl ?_
  refine mg_getA 2 2 dX10_rough_12 fX10_16 rfl rt_2 hS ?_
  refine g_iload_n dX10_rough_15 rfl ?_
  refine mg_iald dX10_rough_16 rfl rfl rfl (by omega) hS ?_
  rw [hb]
  refine mg_dald dX10_rough_17 (by first | exact rfl | assumption) rfl rfl (by omega) hS ?_
  refine g_d2f dX10_rough_18 (n32 (nn_d2f hx)) ?_
  refine g_fstore_n dX10_rough_19 (by decide) rfl ?_
  refine g_aload_n dX10_rough_20 rfl ?_
  refine mg_getA 12 11 dX10_rough_21 fX10_43 rfl rt_11 hS ?_
  refine g_aload_n dX10_rough_24 rfl ?_
  refine mg_getA 3 3 dX10_rough_25 fX10_19 rfl rt_3 hS ?_
  refine g_iload_n dX10_rough_28 rfl ?_
  refine mg_iald dX10_rough_29 rfl rfl rfl (by omega) hS ?_
  rw [hc]
  refine mg_dald dX10_rough_30 (by first | exact rfl | assumption) rfl rfl (by omega) hS ?_
  refine g_d2f dX10_rough_31 (n32 (nn_d2f hy)) ?_
  refine g_fstore dX10_rough_32 (by decide) rfl ?_
  refine g_iload_n dX10_rough_34 rfl ?_
  refine g_iconstV (v := 3) dX10_rough_35 (by decide) ?_
  refine g_icmp_eq 44 dX10_rough_36 (by decide) (fun q => absurd q (by decide)) (fun _ => ?_)
  refine g_iload_n dX10_rough_39 rfl ?_
  refine g_iconstV (v := 4) dX10_rough_40 (by decide) ?_
  refine g_icmp_ne 58 dX10_rough_41 (by decide) (fun _ => ?_) (fun q => absurd q (by decide))
  refine g_iload_n dX10_rough_58 rfl ?_
  refine g_tableIn (off := 128) 187 dX10_rough_59 (by rw [show (5 : Int32) = 5 from rfl]; decide) (by rw [show (5 : Int32) = 5 from rfl]; decide) (by rw [show (5 : Int32) = 5 from rfl]; rfl) (by decide) ?_
  refine g_iload_n dX10_rough_187 rfl ?_
  refine g_fload_n dX10_rough_188 rfl ?_
  refine g_f2d dX10_rough_189 (nn32_f2d fx.nn) ?_
  refine g_fload dX10_rough_190 rfl ?_
  refine g_f2d dX10_rough_192 (nn32_f2d fy.nn) ?_
  refine g_callS (d1 := d - 1) (As := [_, _, _]) dX10_rough_193 sX10_304 (by omega) rfl rfl (Nat.le_of_ble_eq_true rfl) ?_
  refine m_chosen (by omega) (DF_f2d fx) (DF_f2d fy) ?_
  refine g_dstore dX10_rough_196 (by decide) rfl ?_
  refine g_aload_n dX10_rough_198 rfl ?_
  refine g_aload_n dX10_rough_199 rfl ?_
  refine mg_getA 2 2 dX10_rough_200 fX10_16 rfl rt_2 hS ?_
  refine g_iload_n dX10_rough_203 rfl ?_
  refine mg_iald dX10_rough_204 rfl rfl rfl (by omega) hS ?_
  rw [hb]
  refine g_dload dX10_rough_205 rfl ?_
  refine g_callV (d1 := d - 1) (As := [_, _]) 9 dX10_rough_207 vX10_308 (by omega) (mg_ob hS) rfl rfl (Nat.le_of_ble_eq_true rfl) ?_
  refine m_turn (by omega) hS hb2 hn hn2 (fun q => ?_) (fun q => ?_)
  · refine g_vret dX10_rough_210 rfl ?_
    exact k1 q
  · refine g_vret dX10_rough_210 rfl ?_
    exact k2 q
set_option maxHeartbeats 4000000 in
set_option maxRecDepth 20000 in
theorem m_rough6 {g : GE} {d : Nat} {w : GW} {σ : MW} {Q : Option Value → GW → Prop} (hd : 6 ≤ d) (hS : SK g w) {p b c n : Nat} (hp : p < 160) (ha : mA σ 1 p = 6) (hb : mA σ 2 p = nI b) (hb2 : b < 8) (hc : mA σ 3 p = nI c) (hc2 : c < 8) (hn : mI σ 22 = nI n) (hn2 : n < 600) (hx : DF (mD σ 11 b)) (hy : DF (mD σ 11 c)) (fx : FF (FP.d2f (mD σ 11 b))) (fy : FF (FP.d2f (mD σ 11 c))) (k1 : fBeyond (fRough 6 (FP.d2f (mD σ 11 b)) (FP.d2f (mD σ 11 c))) → Q none (put g (mFail σ n 8) w)) (k2 : ¬ fBeyond (fRough 6 (FP.d2f (mD σ 11 b)) (FP.d2f (mD σ 11 c))) → Q none (put g (sD σ 11 b (fRough 6 (FP.d2f (mD σ 11 b)) (FP.d2f (mD σ 11 c)))) w)) : gM g d mX10_rough [.ref (eB g + 70), .int (nI p)] (put g σ w) Q := by
  refine gM.of (by decide) (Nat.le_of_ble_eq_true rfl) ?_
  have ev : fRough 6 (FP.d2f (mD σ 11 b)) (FP.d2f (mD σ 11 c)) = mChosen 6 (FP.f2d (FP.d2f (mD σ 11 b))) (FP.f2d (FP.d2f (mD σ 11 c))) := by simp [fRough]
  rw [ev] at k1 k2
  refine g_aload_n dX10_rough_0 rfl ?_
  refine mg_getA 1 1 dX10_rough_1 fX10_13 rfl rt_1 hS ?_
  refine g_iload_n dX10_rough_4 rfl ?_
  refine mg_iald dX10_rough_5 rfl rfl rfl (by omega) hS ?_
  rw [ha]
  refine g_istore_n dX10_rough_6 (by decide) rfl ?_
  refine g_aload_n dX10_rough_7 rfl ?_
  refine mg_getA 12 11 dX10_rough_8 fX10_43 rfl rt_11 hS ?_
  refine g_aload_n dX10_rough_11 rfl ?_
  refine mg_getA 2 2 dX10_rough_12 fX10_16 rfl rt_2 hS ?_
  refine g_iload_n dX10_rough_15 rfl ?_
  refine mg_iald dX10_rough_16 rfl rfl rfl (by omega) hS ?_
  rw [hb]
  refine mg_dald dX10_rough_17 (by first | exact rfl | assumption) rfl rfl (by omega) hS ?_
  refine g_d2f dX10_rough_18 (n32 (nn_d2f hx)) ?_
  refine g_fstore_n dX10_rough_19 (by decide) rfl ?_
  refine g_aload_n dX10_rough_20 rfl ?_
  refine mg_getA 12 11 dX10_rough_21 fX10_43 rfl rt_11 hS ?_
  refine g_aload_n dX10_rough_24 rfl ?_
  refine mg_getA 3 3 dX10_rough_25 fX10_19 rfl rt_3 hS ?_
  refine g_iload_n dX10_rough_28 rfl ?_
  refine mg_iald dX10_rough_29 rfl rfl rfl (by omega) hS ?_
  rw [hc]
  refine mg_dald dX10_rough_30 (by first | exact rfl | assumption) rfl rfl (by omega) hS ?_
  refine g_d2f dX10_rough_31 (n32 (nn_d2f hy)) ?_
  refine g_fstore dX10_rough_32 (by decide) rfl ?_
  refine g_iload_n dX10_rough_34 rfl ?_
  refine g_iconstV (v := 3) dX10_rough_35 (by decide) ?_
  refine g_icmp_eq 44 dX10_rough_36 (by decide) (fun q => absurd q (by decide)) (fun _ => ?_)
  refine g_iload_n dX10_rough_39 rfl ?_
  refine g_iconstV (v := 4) dX10_rough_40 (by decide) ?_
  refine g_icmp_ne 58 dX10_rough_41 (by decide) (fun _ => ?_) (fun q => absurd q (by decide))
  refine g_iload_n dX10_rough_58 rfl ?_
  refine g_tableIn (off := 128) 187 dX10_rough_59 (by rw [show (6 : Int32) = 6 from rfl]; decide) (by rw [show (6 : Int32) = 6 from rfl]; decide) (by rw [show (6 : Int32) = 6 from rfl]; rfl) (by decide) ?_
  refine g_iload_n dX10_rough_187 rfl ?_
  refine g_fload_n dX10_rough_188 rfl ?_
  refine g_f2d dX10_rough_189 (nn32_f2d fx.nn) ?_
  refine g_fload dX10_rough_190 rfl ?_
  refine g_f2d dX10_rough_192 (nn32_f2d fy.nn) ?_
  refine g_callS (d1 := d - 1) (As := [_, _, _]) dX10_rough_193 sX10_304 (by omega) rfl rfl (Nat.le_of_ble_eq_true rfl) ?_
  refine m_chosen (by omega) (DF_f2d fx) (DF_f2d fy) ?_
  refine g_dstore dX10_rough_196 (by decide) rfl ?_
  refine g_aload_n dX10_rough_198 rfl ?_
  refine g_aload_n dX10_rough_199 rfl ?_
  refine mg_getA 2 2 dX10_rough_200 fX10_16 rfl rt_2 hS ?_
  refine g_iload_n dX10_rough_203 rfl ?_
  refine mg_iald dX10_rough_204 rfl rfl rfl (by omega) hS ?_
  rw [hb]
  refine g_dload dX10_rough_205 rfl ?_
  refine g_callV (d1 := d - 1) (As := [_, _]) 9 dX10_rough_207 vX10_308 (by omega) (mg_ob hS) rfl rfl (Nat.le_of_ble_eq_true rfl) ?_
  refine m_turn (by omega) hS hb2 hn hn2 (fun q => ?_) (fun q => ?_)
  · refine g_vret dX10_rough_210 rfl ?_
    exact k1 q
  · refine g_vret dX10_rough_210 rfl ?_
    exact k2 q
set_option maxHeartbeats 4000000 in
set_option maxRecDepth 20000 in
theorem m_rough7 {g : GE} {d : Nat} {w : GW} {σ : MW} {Q : Option Value → GW → Prop} (hd : 6 ≤ d) (hS : SK g w) {p b c n : Nat} (hp : p < 160) (ha : mA σ 1 p = 7) (hb : mA σ 2 p = nI b) (hb2 : b < 8) (hc : mA σ 3 p = nI c) (hc2 : c < 8) (hn : mI σ 22 = nI n) (hn2 : n < 600) (hx : DF (mD σ 11 b)) (hy : DF (mD σ 11 c)) (fx : FF (FP.d2f (mD σ 11 b))) (fy : FF (FP.d2f (mD σ 11 c))) (k1 : fBeyond (fRough 7 (FP.d2f (mD σ 11 b)) (FP.d2f (mD σ 11 c))) → Q none (put g (mFail σ n 8) w)) (k2 : ¬ fBeyond (fRough 7 (FP.d2f (mD σ 11 b)) (FP.d2f (mD σ 11 c))) → Q none (put g (sD σ 11 b (fRough 7 (FP.d2f (mD σ 11 b)) (FP.d2f (mD σ 11 c)))) w)) : gM g d mX10_rough [.ref (eB g + 70), .int (nI p)] (put g σ w) Q := by
  refine gM.of (by decide) (Nat.le_of_ble_eq_true rfl) ?_
  have ev : fRough 7 (FP.d2f (mD σ 11 b)) (FP.d2f (mD σ 11 c)) = mChosen 7 (FP.f2d (FP.d2f (mD σ 11 b))) (FP.f2d (FP.d2f (mD σ 11 c))) := by simp [fRough]
  rw [ev] at k1 k2
  refine g_aload_n dX10_rough_0 rfl ?_
  refine mg_getA 1 1 dX10_rough_1 fX10_13 rfl rt_1 hS ?_
  refine g_iload_n dX10_rough_4 rfl ?_
  refine mg_iald dX10_rough_5 rfl rfl rfl (by omega) hS ?_
  rw [ha]
  refine g_istore_n dX10_rough_6 (by decide) rfl ?_
  refine g_aload_n dX10_rough_7 rfl ?_
  refine mg_getA 12 11 dX10_rough_8 fX10_43 rfl rt_11 hS ?_
  refine g_aload_n dX10_rough_11 rfl ?_
  refine mg_getA 2 2 dX10_rough_12 fX10_16 rfl rt_2 hS ?_
  refine g_iload_n dX10_rough_15 rfl ?_
  refine mg_iald dX10_rough_16 rfl rfl rfl (by omega) hS ?_
  rw [hb]
  refine mg_dald dX10_rough_17 (by first | exact rfl | assumption) rfl rfl (by omega) hS ?_
  refine g_d2f dX10_rough_18 (n32 (nn_d2f hx)) ?_
  refine g_fstore_n dX10_rough_19 (by decide) rfl ?_
  refine g_aload_n dX10_rough_20 rfl ?_
  refine mg_getA 12 11 dX10_rough_21 fX10_43 rfl rt_11 hS ?_
  refine g_aload_n dX10_rough_24 rfl ?_
  refine mg_getA 3 3 dX10_rough_25 fX10_19 rfl rt_3 hS ?_
  refine g_iload_n dX10_rough_28 rfl ?_
  refine mg_iald dX10_rough_29 rfl rfl rfl (by omega) hS ?_
  rw [hc]
  refine mg_dald dX10_rough_30 (by first | exact rfl | assumption) rfl rfl (by omega) hS ?_
  refine g_d2f dX10_rough_31 (n32 (nn_d2f hy)) ?_
  refine g_fstore dX10_rough_32 (by decide) rfl ?_
  refine g_iload_n dX10_rough_34 rfl ?_
  refine g_iconstV (v := 3) dX10_rough_35 (by decide) ?_
  refine g_icmp_eq 44 dX10_rough_36 (by decide) (fun q => absurd q (by decide)) (fun _ => ?_)
  refine g_iload_n dX10_rough_39 rfl ?_
  refine g_iconstV (v := 4) dX10_rough_40 (by decide) ?_
  refine g_icmp_ne 58 dX10_rough_41 (by decide) (fun _ => ?_) (fun q => absurd q (by decide))
  refine g_iload_n dX10_rough_58 rfl ?_
  refine g_tableIn (off := 128) 187 dX10_rough_59 (by rw [show (7 : Int32) = 7 from rfl]; decide) (by rw [show (7 : Int32) = 7 from rfl]; decide) (by rw [show (7 : Int32) = 7 from rfl]; rfl) (by decide) ?_
  refine g_iload_n dX10_rough_187 rfl ?_
  refine g_fload_n dX10_rough_188 rfl ?_
  refine g_f2d dX10_rough_189 (nn32_f2d fx.nn) ?_
  refine g_fload dX10_rough_190 rfl ?_
  refine g_f2d dX10_rough_192 (nn32_f2d fy.nn) ?_
  refine g_callS (d1 := d - 1) (As := [_, _, _]) dX10_rough_193 sX10_304 (by omega) rfl rfl (Nat.le_of_ble_eq_true rfl) ?_
  refine m_chosen (by omega) (DF_f2d fx) (DF_f2d fy) ?_
  refine g_dstore dX10_rough_196 (by decide) rfl ?_
  refine g_aload_n dX10_rough_198 rfl ?_
  refine g_aload_n dX10_rough_199 rfl ?_
  refine mg_getA 2 2 dX10_rough_200 fX10_16 rfl rt_2 hS ?_
  refine g_iload_n dX10_rough_203 rfl ?_
  refine mg_iald dX10_rough_204 rfl rfl rfl (by omega) hS ?_
  rw [hb]
  refine g_dload dX10_rough_205 rfl ?_
  refine g_callV (d1 := d - 1) (As := [_, _]) 9 dX10_rough_207 vX10_308 (by omega) (mg_ob hS) rfl rfl (Nat.le_of_ble_eq_true rfl) ?_
  refine m_turn (by omega) hS hb2 hn hn2 (fun q => ?_) (fun q => ?_)
  · refine g_vret dX10_rough_210 rfl ?_
    exact k1 q
  · refine g_vret dX10_rough_210 rfl ?_
    exact k2 q
set_option maxHeartbeats 4000000 in
set_option maxRecDepth 20000 in
theorem m_rough8 {g : GE} {d : Nat} {w : GW} {σ : MW} {Q : Option Value → GW → Prop} (hd : 6 ≤ d) (hS : SK g w) {p b c n : Nat} (hp : p < 160) (ha : mA σ 1 p = 8) (hb : mA σ 2 p = nI b) (hb2 : b < 8) (hc : mA σ 3 p = nI c) (hc2 : c < 8) (hn : mI σ 22 = nI n) (hn2 : n < 600) (hx : DF (mD σ 11 b)) (hy : DF (mD σ 11 c)) (fx : FF (FP.d2f (mD σ 11 b))) (fy : FF (FP.d2f (mD σ 11 c))) (k1 : fBeyond (fRough 8 (FP.d2f (mD σ 11 b)) (FP.d2f (mD σ 11 c))) → Q none (put g (mFail σ n 8) w)) (k2 : ¬ fBeyond (fRough 8 (FP.d2f (mD σ 11 b)) (FP.d2f (mD σ 11 c))) → Q none (put g (sD σ 11 b (fRough 8 (FP.d2f (mD σ 11 b)) (FP.d2f (mD σ 11 c)))) w)) : gM g d mX10_rough [.ref (eB g + 70), .int (nI p)] (put g σ w) Q := by
  refine gM.of (by decide) (Nat.le_of_ble_eq_true rfl) ?_
  have ev : fRough 8 (FP.d2f (mD σ 11 b)) (FP.d2f (mD σ 11 c)) = mChosen 8 (FP.f2d (FP.d2f (mD σ 11 b))) (FP.f2d (FP.d2f (mD σ 11 c))) := by simp [fRough]
  rw [ev] at k1 k2
  refine g_aload_n dX10_rough_0 rfl ?_
  refine mg_getA 1 1 dX10_rough_1 fX10_13 rfl rt_1 hS ?_
  refine g_iload_n dX10_rough_4 rfl ?_
  refine mg_iald dX10_rough_5 rfl rfl rfl (by omega) hS ?_
  rw [ha]
  refine g_istore_n dX10_rough_6 (by decide) rfl ?_
  refine g_aload_n dX10_rough_7 rfl ?_
  refine mg_getA 12 11 dX10_rough_8 fX10_43 rfl rt_11 hS ?_
  refine g_aload_n dX10_rough_11 rfl ?_
  refine mg_getA 2 2 dX10_rough_12 fX10_16 rfl rt_2 hS ?_
  refine g_iload_n dX10_rough_15 rfl ?_
  refine mg_iald dX10_rough_16 rfl rfl rfl (by omega) hS ?_
  rw [hb]
  refine mg_dald dX10_rough_17 (by first | exact rfl | assumption) rfl rfl (by omega) hS ?_
  refine g_d2f dX10_rough_18 (n32 (nn_d2f hx)) ?_
  refine g_fstore_n dX10_rough_19 (by decide) rfl ?_
  refine g_aload_n dX10_rough_20 rfl ?_
  refine mg_getA 12 11 dX10_rough_21 fX10_43 rfl rt_11 hS ?_
  refine g_aload_n dX10_rough_24 rfl ?_
  refine mg_getA 3 3 dX10_rough_25 fX10_19 rfl rt_3 hS ?_
  refine g_iload_n dX10_rough_28 rfl ?_
  refine mg_iald dX10_rough_29 rfl rfl rfl (by omega) hS ?_
  rw [hc]
  refine mg_dald dX10_rough_30 (by first | exact rfl | assumption) rfl rfl (by omega) hS ?_
  refine g_d2f dX10_rough_31 (n32 (nn_d2f hy)) ?_
  refine g_fstore dX10_rough_32 (by decide) rfl ?_
  refine g_iload_n dX10_rough_34 rfl ?_
  refine g_iconstV (v := 3) dX10_rough_35 (by decide) ?_
  refine g_icmp_eq 44 dX10_rough_36 (by decide) (fun q => absurd q (by decide)) (fun _ => ?_)
  refine g_iload_n dX10_rough_39 rfl ?_
  refine g_iconstV (v := 4) dX10_rough_40 (by decide) ?_
  refine g_icmp_ne 58 dX10_rough_41 (by decide) (fun _ => ?_) (fun q => absurd q (by decide))
  refine g_iload_n dX10_rough_58 rfl ?_
  refine g_tableIn (off := 128) 187 dX10_rough_59 (by rw [show (8 : Int32) = 8 from rfl]; decide) (by rw [show (8 : Int32) = 8 from rfl]; decide) (by rw [show (8 : Int32) = 8 from rfl]; rfl) (by decide) ?_
  refine g_iload_n dX10_rough_187 rfl ?_
  refine g_fload_n dX10_rough_188 rfl ?_
  refine g_f2d dX10_rough_189 (nn32_f2d fx.nn) ?_
  refine g_fload dX10_rough_190 rfl ?_
  refine g_f2d dX10_rough_192 (nn32_f2d fy.nn) ?_
  refine g_callS (d1 := d - 1) (As := [_, _, _]) dX10_rough_193 sX10_304 (by omega) rfl rfl (Nat.le_of_ble_eq_true rfl) ?_
  refine m_chosen (by omega) (DF_f2d fx) (DF_f2d fy) ?_
  refine g_dstore dX10_rough_196 (by decide) rfl ?_
  refine g_aload_n dX10_rough_198 rfl ?_
  refine g_aload_n dX10_rough_199 rfl ?_
  refine mg_getA 2 2 dX10_rough_200 fX10_16 rfl rt_2 hS ?_
  refine g_iload_n dX10_rough_203 rfl ?_
  refine mg_iald dX10_rough_204 rfl rfl rfl (by omega) hS ?_
  rw [hb]
  refine g_dload dX10_rough_205 rfl ?_
  refine g_callV (d1 := d - 1) (As := [_, _]) 9 dX10_rough_207 vX10_308 (by omega) (mg_ob hS) rfl rfl (Nat.le_of_ble_eq_true rfl) ?_
  refine m_turn (by omega) hS hb2 hn hn2 (fun q => ?_) (fun q => ?_)
  · refine g_vret dX10_rough_210 rfl ?_
    exact k1 q
  · refine g_vret dX10_rough_210 rfl ?_
    exact k2 q
set_option maxHeartbeats 4000000 in
set_option maxRecDepth 20000 in
theorem m_rough9 {g : GE} {d : Nat} {w : GW} {σ : MW} {Q : Option Value → GW → Prop} (hd : 6 ≤ d) (hS : SK g w) {p b c n : Nat} (hp : p < 160) (ha : mA σ 1 p = 9) (hb : mA σ 2 p = nI b) (hb2 : b < 8) (hc : mA σ 3 p = nI c) (hc2 : c < 8) (hn : mI σ 22 = nI n) (hn2 : n < 600) (hx : DF (mD σ 11 b)) (hy : DF (mD σ 11 c)) (fx : FF (FP.d2f (mD σ 11 b))) (fy : FF (FP.d2f (mD σ 11 c))) (k1 : fBeyond (fRough 9 (FP.d2f (mD σ 11 b)) (FP.d2f (mD σ 11 c))) → Q none (put g (mFail σ n 8) w)) (k2 : ¬ fBeyond (fRough 9 (FP.d2f (mD σ 11 b)) (FP.d2f (mD σ 11 c))) → Q none (put g (sD σ 11 b (fRough 9 (FP.d2f (mD σ 11 b)) (FP.d2f (mD σ 11 c)))) w)) : gM g d mX10_rough [.ref (eB g + 70), .int (nI p)] (put g σ w) Q := by
  refine gM.of (by decide) (Nat.le_of_ble_eq_true rfl) ?_
  have ev : fRough 9 (FP.d2f (mD σ 11 b)) (FP.d2f (mD σ 11 c)) = mChosen 9 (FP.f2d (FP.d2f (mD σ 11 b))) (FP.f2d (FP.d2f (mD σ 11 c))) := by simp [fRough]
  rw [ev] at k1 k2
  refine g_aload_n dX10_rough_0 rfl ?_
  refine mg_getA 1 1 dX10_rough_1 fX10_13 rfl rt_1 hS ?_
  refine g_iload_n dX10_rough_4 rfl ?_
  refine mg_iald dX10_rough_5 rfl rfl rfl (by omega) hS ?_
  rw [ha]
  refine g_istore_n dX10_rough_6 (by decide) rfl ?_
  refine g_aload_n dX10_rough_7 rfl ?_
  refine mg_getA 12 11 dX10_rough_8 fX10_43 rfl rt_11 hS ?_
  refine g_aload_n dX10_rough_11 rfl ?_
  refine mg_getA 2 2 dX10_rough_12 fX10_16 rfl rt_2 hS ?_
  refine g_iload_n dX10_rough_15 rfl ?_
  refine mg_iald dX10_rough_16 rfl rfl rfl (by omega) hS ?_
  rw [hb]
  refine mg_dald dX10_rough_17 (by first | exact rfl | assumption) rfl rfl (by omega) hS ?_
  refine g_d2f dX10_rough_18 (n32 (nn_d2f hx)) ?_
  refine g_fstore_n dX10_rough_19 (by decide) rfl ?_
  refine g_aload_n dX10_rough_20 rfl ?_
  refine mg_getA 12 11 dX10_rough_21 fX10_43 rfl rt_11 hS ?_
  refine g_aload_n dX10_rough_24 rfl ?_
  refine mg_getA 3 3 dX10_rough_25 fX10_19 rfl rt_3 hS ?_
  refine g_iload_n dX10_rough_28 rfl ?_
  refine mg_iald dX10_rough_29 rfl rfl rfl (by omega) hS ?_
  rw [hc]
  refine mg_dald dX10_rough_30 (by first | exact rfl | assumption) rfl rfl (by omega) hS ?_
  refine g_d2f dX10_rough_31 (n32 (nn_d2f hy)) ?_
  refine g_fstore dX10_rough_32 (by decide) rfl ?_
  refine g_iload_n dX10_rough_34 rfl ?_
  refine g_iconstV (v := 3) dX10_rough_35 (by decide) ?_
  refine g_icmp_eq 44 dX10_rough_36 (by decide) (fun q => absurd q (by decide)) (fun _ => ?_)
  refine g_iload_n dX10_rough_39 rfl ?_
  refine g_iconstV (v := 4) dX10_rough_40 (by decide) ?_
  refine g_icmp_ne 58 dX10_rough_41 (by decide) (fun _ => ?_) (fun q => absurd q (by decide))
  refine g_iload_n dX10_rough_58 rfl ?_
  refine g_tableIn (off := 128) 187 dX10_rough_59 (by rw [show (9 : Int32) = 9 from rfl]; decide) (by rw [show (9 : Int32) = 9 from rfl]; decide) (by rw [show (9 : Int32) = 9 from rfl]; rfl) (by decide) ?_
  refine g_iload_n dX10_rough_187 rfl ?_
  refine g_fload_n dX10_rough_188 rfl ?_
  refine g_f2d dX10_rough_189 (nn32_f2d fx.nn) ?_
  refine g_fload dX10_rough_190 rfl ?_
  refine g_f2d dX10_rough_192 (nn32_f2d fy.nn) ?_
  refine g_callS (d1 := d - 1) (As := [_, _, _]) dX10_rough_193 sX10_304 (by omega) rfl rfl (Nat.le_of_ble_eq_true rfl) ?_
  refine m_chosen (by omega) (DF_f2d fx) (DF_f2d fy) ?_
  refine g_dstore dX10_rough_196 (by decide) rfl ?_
  refine g_aload_n dX10_rough_198 rfl ?_
  refine g_aload_n dX10_rough_199 rfl ?_
  refine mg_getA 2 2 dX10_rough_200 fX10_16 rfl rt_2 hS ?_
  refine g_iload_n dX10_rough_203 rfl ?_
  refine mg_iald dX10_rough_204 rfl rfl rfl (by omega) hS ?_
  rw [hb]
  refine g_dload dX10_rough_205 rfl ?_
  refine g_callV (d1 := d - 1) (As := [_, _]) 9 dX10_rough_207 vX10_308 (by omega) (mg_ob hS) rfl rfl (Nat.le_of_ble_eq_true rfl) ?_
  refine m_turn (by omega) hS hb2 hn hn2 (fun q => ?_) (fun q => ?_)
  · refine g_vret dX10_rough_210 rfl ?_
    exact k1 q
  · refine g_vret dX10_rough_210 rfl ?_
    exact k2 q
set_option maxHeartbeats 4000000 in
set_option maxRecDepth 20000 in
theorem m_rough10 {g : GE} {d : Nat} {w : GW} {σ : MW} {Q : Option Value → GW → Prop} (hd : 6 ≤ d) (hS : SK g w) {p b c n : Nat} (hp : p < 160) (ha : mA σ 1 p = 10) (hb : mA σ 2 p = nI b) (hb2 : b < 8) (hc : mA σ 3 p = nI c) (hc2 : c < 8) (hn : mI σ 22 = nI n) (hn2 : n < 600) (hx : DF (mD σ 11 b)) (hy : DF (mD σ 11 c)) (fx : FF (FP.d2f (mD σ 11 b))) (fy : FF (FP.d2f (mD σ 11 c))) (k1 : fBeyond (fRough 10 (FP.d2f (mD σ 11 b)) (FP.d2f (mD σ 11 c))) → Q none (put g (mFail σ n 8) w)) (k2 : ¬ fBeyond (fRough 10 (FP.d2f (mD σ 11 b)) (FP.d2f (mD σ 11 c))) → Q none (put g (sD σ 11 b (fRough 10 (FP.d2f (mD σ 11 b)) (FP.d2f (mD σ 11 c)))) w)) : gM g d mX10_rough [.ref (eB g + 70), .int (nI p)] (put g σ w) Q := by
  refine gM.of (by decide) (Nat.le_of_ble_eq_true rfl) ?_
  have ev : fRough 10 (FP.d2f (mD σ 11 b)) (FP.d2f (mD σ 11 c)) = mChosen 10 (FP.f2d (FP.d2f (mD σ 11 b))) (FP.f2d (FP.d2f (mD σ 11 c))) := by simp [fRough]
  rw [ev] at k1 k2
  refine g_aload_n dX10_rough_0 rfl ?_
  refine mg_getA 1 1 dX10_rough_1 fX10_13 rfl rt_1 hS ?_
  refine g_iload_n dX10_rough_4 rfl ?_
  refine mg_iald dX10_rough_5 rfl rfl rfl (by omega) hS ?_
  rw [ha]
  refine g_istore_n dX10_rough_6 (by decide) rfl ?_
  refine g_aload_n dX10_rough_7 rfl ?_
  refine mg_getA 12 11 dX10_rough_8 fX10_43 rfl rt_11 hS ?_
  refine g_aload_n dX10_rough_11 rfl ?_
  refine mg_getA 2 2 dX10_rough_12 fX10_16 rfl rt_2 hS ?_
  refine g_iload_n dX10_rough_15 rfl ?_
  refine mg_iald dX10_rough_16 rfl rfl rfl (by omega) hS ?_
  rw [hb]
  refine mg_dald dX10_rough_17 (by first | exact rfl | assumption) rfl rfl (by omega) hS ?_
  refine g_d2f dX10_rough_18 (n32 (nn_d2f hx)) ?_
  refine g_fstore_n dX10_rough_19 (by decide) rfl ?_
  refine g_aload_n dX10_rough_20 rfl ?_
  refine mg_getA 12 11 dX10_rough_21 fX10_43 rfl rt_11 hS ?_
  refine g_aload_n dX10_rough_24 rfl ?_
  refine mg_getA 3 3 dX10_rough_25 fX10_19 rfl rt_3 hS ?_
  refine g_iload_n dX10_rough_28 rfl ?_
  refine mg_iald dX10_rough_29 rfl rfl rfl (by omega) hS ?_
  rw [hc]
  refine mg_dald dX10_rough_30 (by first | exact rfl | assumption) rfl rfl (by omega) hS ?_
  refine g_d2f dX10_rough_31 (n32 (nn_d2f hy)) ?_
  refine g_fstore dX10_rough_32 (by decide) rfl ?_
  refine g_iload_n dX10_rough_34 rfl ?_
  refine g_iconstV (v := 3) dX10_rough_35 (by decide) ?_
  refine g_icmp_eq 44 dX10_rough_36 (by decide) (fun q => absurd q (by decide)) (fun _ => ?_)
  refine g_iload_n dX10_rough_39 rfl ?_
  refine g_iconstV (v := 4) dX10_rough_40 (by decide) ?_
  refine g_icmp_ne 58 dX10_rough_41 (by decide) (fun _ => ?_) (fun q => absurd q (by decide))
  refine g_iload_n dX10_rough_58 rfl ?_
  refine g_tableIn (off := 128) 187 dX10_rough_59 (by rw [show (10 : Int32) = 10 from rfl]; decide) (by rw [show (10 : Int32) = 10 from rfl]; decide) (by rw [show (10 : Int32) = 10 from rfl]; rfl) (by decide) ?_
  refine g_iload_n dX10_rough_187 rfl ?_
  refine g_fload_n dX10_rough_188 rfl ?_
  refine g_f2d dX10_rough_189 (nn32_f2d fx.nn) ?_
  refine g_fload dX10_rough_190 rfl ?_
  refine g_f2d dX10_rough_192 (nn32_f2d fy.nn) ?_
  refine g_callS (d1 := d - 1) (As := [_, _, _]) dX10_rough_193 sX10_304 (by omega) rfl rfl (Nat.le_of_ble_eq_true rfl) ?_
  refine m_chosen (by omega) (DF_f2d fx) (DF_f2d fy) ?_
  refine g_dstore dX10_rough_196 (by decide) rfl ?_
  refine g_aload_n dX10_rough_198 rfl ?_
  refine g_aload_n dX10_rough_199 rfl ?_
  refine mg_getA 2 2 dX10_rough_200 fX10_16 rfl rt_2 hS ?_
  refine g_iload_n dX10_rough_203 rfl ?_
  refine mg_iald dX10_rough_204 rfl rfl rfl (by omega) hS ?_
  rw [hb]
  refine g_dload dX10_rough_205 rfl ?_
  refine g_callV (d1 := d - 1) (As := [_, _]) 9 dX10_rough_207 vX10_308 (by omega) (mg_ob hS) rfl rfl (Nat.le_of_ble_eq_true rfl) ?_
  refine m_turn (by omega) hS hb2 hn hn2 (fun q => ?_) (fun q => ?_)
  · refine g_vret dX10_rough_210 rfl ?_
    exact k1 q
  · refine g_vret dX10_rough_210 rfl ?_
    exact k2 q
set_option maxHeartbeats 4000000 in
set_option maxRecDepth 20000 in
theorem m_rough11 {g : GE} {d : Nat} {w : GW} {σ : MW} {Q : Option Value → GW → Prop} (hd : 6 ≤ d) (hS : SK g w) {p b c n : Nat} (hp : p < 160) (ha : mA σ 1 p = 11) (hb : mA σ 2 p = nI b) (hb2 : b < 8) (hc : mA σ 3 p = nI c) (hc2 : c < 8) (hn : mI σ 22 = nI n) (hn2 : n < 600) (hx : DF (mD σ 11 b)) (hy : DF (mD σ 11 c)) (fx : FF (FP.d2f (mD σ 11 b))) (fy : FF (FP.d2f (mD σ 11 c))) (k1 : fBeyond (fRough 11 (FP.d2f (mD σ 11 b)) (FP.d2f (mD σ 11 c))) → Q none (put g (mFail σ n 8) w)) (k2 : ¬ fBeyond (fRough 11 (FP.d2f (mD σ 11 b)) (FP.d2f (mD σ 11 c))) → Q none (put g (sD σ 11 b (fRough 11 (FP.d2f (mD σ 11 b)) (FP.d2f (mD σ 11 c)))) w)) : gM g d mX10_rough [.ref (eB g + 70), .int (nI p)] (put g σ w) Q := by
  refine gM.of (by decide) (Nat.le_of_ble_eq_true rfl) ?_
  have ev : fRough 11 (FP.d2f (mD σ 11 b)) (FP.d2f (mD σ 11 c)) = mChosen 11 (FP.f2d (FP.d2f (mD σ 11 b))) (FP.f2d (FP.d2f (mD σ 11 c))) := by simp [fRough]
  rw [ev] at k1 k2
  refine g_aload_n dX10_rough_0 rfl ?_
  refine mg_getA 1 1 dX10_rough_1 fX10_13 rfl rt_1 hS ?_
  refine g_iload_n dX10_rough_4 rfl ?_
  refine mg_iald dX10_rough_5 rfl rfl rfl (by omega) hS ?_
  rw [ha]
  refine g_istore_n dX10_rough_6 (by decide) rfl ?_
  refine g_aload_n dX10_rough_7 rfl ?_
  refine mg_getA 12 11 dX10_rough_8 fX10_43 rfl rt_11 hS ?_
  refine g_aload_n dX10_rough_11 rfl ?_
  refine mg_getA 2 2 dX10_rough_12 fX10_16 rfl rt_2 hS ?_
  refine g_iload_n dX10_rough_15 rfl ?_
  refine mg_iald dX10_rough_16 rfl rfl rfl (by omega) hS ?_
  rw [hb]
  refine mg_dald dX10_rough_17 (by first | exact rfl | assumption) rfl rfl (by omega) hS ?_
  refine g_d2f dX10_rough_18 (n32 (nn_d2f hx)) ?_
  refine g_fstore_n dX10_rough_19 (by decide) rfl ?_
  refine g_aload_n dX10_rough_20 rfl ?_
  refine mg_getA 12 11 dX10_rough_21 fX10_43 rfl rt_11 hS ?_
  refine g_aload_n dX10_rough_24 rfl ?_
  refine mg_getA 3 3 dX10_rough_25 fX10_19 rfl rt_3 hS ?_
  refine g_iload_n dX10_rough_28 rfl ?_
  refine mg_iald dX10_rough_29 rfl rfl rfl (by omega) hS ?_
  rw [hc]
  refine mg_dald dX10_rough_30 (by first | exact rfl | assumption) rfl rfl (by omega) hS ?_
  refine g_d2f dX10_rough_31 (n32 (nn_d2f hy)) ?_
  refine g_fstore dX10_rough_32 (by decide) rfl ?_
  refine g_iload_n dX10_rough_34 rfl ?_
  refine g_iconstV (v := 3) dX10_rough_35 (by decide) ?_
  refine g_icmp_eq 44 dX10_rough_36 (by decide) (fun q => absurd q (by decide)) (fun _ => ?_)
  refine g_iload_n dX10_rough_39 rfl ?_
  refine g_iconstV (v := 4) dX10_rough_40 (by decide) ?_
  refine g_icmp_ne 58 dX10_rough_41 (by decide) (fun _ => ?_) (fun q => absurd q (by decide))
  refine g_iload_n dX10_rough_58 rfl ?_
  refine g_tableIn (off := 128) 187 dX10_rough_59 (by rw [show (11 : Int32) = 11 from rfl]; decide) (by rw [show (11 : Int32) = 11 from rfl]; decide) (by rw [show (11 : Int32) = 11 from rfl]; rfl) (by decide) ?_
  refine g_iload_n dX10_rough_187 rfl ?_
  refine g_fload_n dX10_rough_188 rfl ?_
  refine g_f2d dX10_rough_189 (nn32_f2d fx.nn) ?_
  refine g_fload dX10_rough_190 rfl ?_
  refine g_f2d dX10_rough_192 (nn32_f2d fy.nn) ?_
  refine g_callS (d1 := d - 1) (As := [_, _, _]) dX10_rough_193 sX10_304 (by omega) rfl rfl (Nat.le_of_ble_eq_true rfl) ?_
  refine m_chosen (by omega) (DF_f2d fx) (DF_f2d fy) ?_
  refine g_dstore dX10_rough_196 (by decide) rfl ?_
  refine g_aload_n dX10_rough_198 rfl ?_
  refine g_aload_n dX10_rough_199 rfl ?_
  refine mg_getA 2 2 dX10_rough_200 fX10_16 rfl rt_2 hS ?_
  refine g_iload_n dX10_rough_203 rfl ?_
  refine mg_iald dX10_rough_204 rfl rfl rfl (by omega) hS ?_
  rw [hb]
  refine g_dload dX10_rough_205 rfl ?_
  refine g_callV (d1 := d - 1) (As := [_, _]) 9 dX10_rough_207 vX10_308 (by omega) (mg_ob hS) rfl rfl (Nat.le_of_ble_eq_true rfl) ?_
  refine m_turn (by omega) hS hb2 hn hn2 (fun q => ?_) (fun q => ?_)
  · refine g_vret dX10_rough_210 rfl ?_
    exact k1 q
  · refine g_vret dX10_rough_210 rfl ?_
    exact k2 q
set_option maxHeartbeats 4000000 in
set_option maxRecDepth 20000 in
theorem m_rough12 {g : GE} {d : Nat} {w : GW} {σ : MW} {Q : Option Value → GW → Prop} (hd : 6 ≤ d) (hS : SK g w) {p b c n : Nat} (hp : p < 160) (ha : mA σ 1 p = 12) (hb : mA σ 2 p = nI b) (hb2 : b < 8) (hc : mA σ 3 p = nI c) (hc2 : c < 8) (hn : mI σ 22 = nI n) (hn2 : n < 600) (hx : DF (mD σ 11 b)) (hy : DF (mD σ 11 c)) (fx : FF (FP.d2f (mD σ 11 b))) (fy : FF (FP.d2f (mD σ 11 c))) (k1 : fBeyond (fRough 12 (FP.d2f (mD σ 11 b)) (FP.d2f (mD σ 11 c))) → Q none (put g (mFail σ n 8) w)) (k2 : ¬ fBeyond (fRough 12 (FP.d2f (mD σ 11 b)) (FP.d2f (mD σ 11 c))) → Q none (put g (sD σ 11 b (fRough 12 (FP.d2f (mD σ 11 b)) (FP.d2f (mD σ 11 c)))) w)) : gM g d mX10_rough [.ref (eB g + 70), .int (nI p)] (put g σ w) Q := by
  refine gM.of (by decide) (Nat.le_of_ble_eq_true rfl) ?_
  have ev : fRough 12 (FP.d2f (mD σ 11 b)) (FP.d2f (mD σ 11 c)) = mChosen 12 (FP.f2d (FP.d2f (mD σ 11 b))) (FP.f2d (FP.d2f (mD σ 11 c))) := by simp [fRough]
  rw [ev] at k1 k2
  refine g_aload_n dX10_rough_0 rfl ?_
  refine mg_getA 1 1 dX10_rough_1 fX10_13 rfl rt_1 hS ?_
  refine g_iload_n dX10_rough_4 rfl ?_
  refine mg_iald dX10_rough_5 rfl rfl rfl (by omega) hS ?_
  rw [ha]
  refine g_istore_n dX10_rough_6 (by decide) rfl ?_
  refine g_aload_n dX10_rough_7 rfl ?_
  refine mg_getA 12 11 dX10_rough_8 fX10_43 rfl rt_11 hS ?_
  refine g_aload_n dX10_rough_11 rfl ?_
  refine mg_getA 2 2 dX10_rough_12 fX10_16 rfl rt_2 hS ?_
  refine g_iload_n dX10_rough_15 rfl ?_
  refine mg_iald dX10_rough_16 rfl rfl rfl (by omega) hS ?_
  rw [hb]
  refine mg_dald dX10_rough_17 (by first | exact rfl | assumption) rfl rfl (by omega) hS ?_
  refine g_d2f dX10_rough_18 (n32 (nn_d2f hx)) ?_
  refine g_fstore_n dX10_rough_19 (by decide) rfl ?_
  refine g_aload_n dX10_rough_20 rfl ?_
  refine mg_getA 12 11 dX10_rough_21 fX10_43 rfl rt_11 hS ?_
  refine g_aload_n dX10_rough_24 rfl ?_
  refine mg_getA 3 3 dX10_rough_25 fX10_19 rfl rt_3 hS ?_
  refine g_iload_n dX10_rough_28 rfl ?_
  refine mg_iald dX10_rough_29 rfl rfl rfl (by omega) hS ?_
  rw [hc]
  refine mg_dald dX10_rough_30 (by first | exact rfl | assumption) rfl rfl (by omega) hS ?_
  refine g_d2f dX10_rough_31 (n32 (nn_d2f hy)) ?_
  refine g_fstore dX10_rough_32 (by decide) rfl ?_
  refine g_iload_n dX10_rough_34 rfl ?_
  refine g_iconstV (v := 3) dX10_rough_35 (by decide) ?_
  refine g_icmp_eq 44 dX10_rough_36 (by decide) (fun q => absurd q (by decide)) (fun _ => ?_)
  refine g_iload_n dX10_rough_39 rfl ?_
  refine g_iconstV (v := 4) dX10_rough_40 (by decide) ?_
  refine g_icmp_ne 58 dX10_rough_41 (by decide) (fun _ => ?_) (fun q => absurd q (by decide))
  refine g_iload_n dX10_rough_58 rfl ?_
  refine g_tableIn (off := 128) 187 dX10_rough_59 (by rw [show (12 : Int32) = 12 from rfl]; decide) (by rw [show (12 : Int32) = 12 from rfl]; decide) (by rw [show (12 : Int32) = 12 from rfl]; rfl) (by decide) ?_
  refine g_iload_n dX10_rough_187 rfl ?_
  refine g_fload_n dX10_rough_188 rfl ?_
  refine g_f2d dX10_rough_189 (nn32_f2d fx.nn) ?_
  refine g_fload dX10_rough_190 rfl ?_
  refine g_f2d dX10_rough_192 (nn32_f2d fy.nn) ?_
  refine g_callS (d1 := d - 1) (As := [_, _, _]) dX10_rough_193 sX10_304 (by omega) rfl rfl (Nat.le_of_ble_eq_true rfl) ?_
  refine m_chosen (by omega) (DF_f2d fx) (DF_f2d fy) ?_
  refine g_dstore dX10_rough_196 (by decide) rfl ?_
  refine g_aload_n dX10_rough_198 rfl ?_
  refine g_aload_n dX10_rough_199 rfl ?_
  refine mg_getA 2 2 dX10_rough_200 fX10_16 rfl rt_2 hS ?_
  refine g_iload_n dX10_rough_203 rfl ?_
  refine mg_iald dX10_rough_204 rfl rfl rfl (by omega) hS ?_
  rw [hb]
  refine g_dload dX10_rough_205 rfl ?_
  refine g_callV (d1 := d - 1) (As := [_, _]) 9 dX10_rough_207 vX10_308 (by omega) (mg_ob hS) rfl rfl (Nat.le_of_ble_eq_true rfl) ?_
  refine m_turn (by omega) hS hb2 hn hn2 (fun q => ?_) (fun q => ?_)
  · refine g_vret dX10_rough_210 rfl ?_
    exact k1 q
  · refine g_vret dX10_rough_210 rfl ?_
    exact k2 q
set_option maxHeartbeats 4000000 in
set_option maxRecDepth 20000 in
theorem m_rough13 {g : GE} {d : Nat} {w : GW} {σ : MW} {Q : Option Value → GW → Prop} (hd : 6 ≤ d) (hS : SK g w) {p b c n : Nat} (hp : p < 160) (ha : mA σ 1 p = 13) (hb : mA σ 2 p = nI b) (hb2 : b < 8) (hc : mA σ 3 p = nI c) (hc2 : c < 8) (hn : mI σ 22 = nI n) (hn2 : n < 600) (hx : DF (mD σ 11 b)) (hy : DF (mD σ 11 c)) (fx : FF (FP.d2f (mD σ 11 b))) (fy : FF (FP.d2f (mD σ 11 c))) (k1 : fBeyond (fRough 13 (FP.d2f (mD σ 11 b)) (FP.d2f (mD σ 11 c))) → Q none (put g (mFail σ n 8) w)) (k2 : ¬ fBeyond (fRough 13 (FP.d2f (mD σ 11 b)) (FP.d2f (mD σ 11 c))) → Q none (put g (sD σ 11 b (fRough 13 (FP.d2f (mD σ 11 b)) (FP.d2f (mD σ 11 c)))) w)) : gM g d mX10_rough [.ref (eB g + 70), .int (nI p)] (put g σ w) Q := by
  refine gM.of (by decide) (Nat.le_of_ble_eq_true rfl) ?_
  have ev : fRough 13 (FP.d2f (mD σ 11 b)) (FP.d2f (mD σ 11 c)) = FP.l2d (FP.f2l (FP.d2f (mD σ 11 c))) := by simp [fRough]
  rw [ev] at k1 k2
  refine g_aload_n dX10_rough_0 rfl ?_
  refine mg_getA 1 1 dX10_rough_1 fX10_13 rfl rt_1 hS ?_
  refine g_iload_n dX10_rough_4 rfl ?_
  refine mg_iald dX10_rough_5 rfl rfl rfl (by omega) hS ?_
  rw [ha]
  refine g_istore_n dX10_rough_6 (by decide) rfl ?_
  refine g_aload_n dX10_rough_7 rfl ?_
  refine mg_getA 12 11 dX10_rough_8 fX10_43 rfl rt_11 hS ?_
  refine g_aload_n dX10_rough_11 rfl ?_
  refine mg_getA 2 2 dX10_rough_12 fX10_16 rfl rt_2 hS ?_
  refine g_iload_n dX10_rough_15 rfl ?_
  refine mg_iald dX10_rough_16 rfl rfl rfl (by omega) hS ?_
  rw [hb]
  refine mg_dald dX10_rough_17 (by first | exact rfl | assumption) rfl rfl (by omega) hS ?_
  refine g_d2f dX10_rough_18 (n32 (nn_d2f hx)) ?_
  refine g_fstore_n dX10_rough_19 (by decide) rfl ?_
  refine g_aload_n dX10_rough_20 rfl ?_
  refine mg_getA 12 11 dX10_rough_21 fX10_43 rfl rt_11 hS ?_
  refine g_aload_n dX10_rough_24 rfl ?_
  refine mg_getA 3 3 dX10_rough_25 fX10_19 rfl rt_3 hS ?_
  refine g_iload_n dX10_rough_28 rfl ?_
  refine mg_iald dX10_rough_29 rfl rfl rfl (by omega) hS ?_
  rw [hc]
  refine mg_dald dX10_rough_30 (by first | exact rfl | assumption) rfl rfl (by omega) hS ?_
  refine g_d2f dX10_rough_31 (n32 (nn_d2f hy)) ?_
  refine g_fstore dX10_rough_32 (by decide) rfl ?_
  refine g_iload_n dX10_rough_34 rfl ?_
  refine g_iconstV (v := 3) dX10_rough_35 (by decide) ?_
  refine g_icmp_eq 44 dX10_rough_36 (by decide) (fun q => absurd q (by decide)) (fun _ => ?_)
  refine g_iload_n dX10_rough_39 rfl ?_
  refine g_iconstV (v := 4) dX10_rough_40 (by decide) ?_
  refine g_icmp_ne 58 dX10_rough_41 (by decide) (fun _ => ?_) (fun q => absurd q (by decide))
  refine g_iload_n dX10_rough_58 rfl ?_
  refine g_tableIn (off := 119) 178 dX10_rough_59 (by rw [show (13 : Int32) = 13 from rfl]; decide) (by rw [show (13 : Int32) = 13 from rfl]; decide) (by rw [show (13 : Int32) = 13 from rfl]; rfl) (by decide) ?_
  refine g_fload dX10_rough_178 rfl ?_
  refine g_f2l dX10_rough_180 ?_
  refine g_l2d dX10_rough_181 ?_
  refine g_dstore dX10_rough_182 (by decide) rfl ?_
  refine g_goto 198 dX10_rough_184 (by decide) ?_
  refine g_aload_n dX10_rough_198 rfl ?_
  refine g_aload_n dX10_rough_199 rfl ?_
  refine mg_getA 2 2 dX10_rough_200 fX10_16 rfl rt_2 hS ?_
  refine g_iload_n dX10_rough_203 rfl ?_
  refine mg_iald dX10_rough_204 rfl rfl rfl (by omega) hS ?_
  rw [hb]
  refine g_dload dX10_rough_205 rfl ?_
  refine g_callV (d1 := d - 1) (As := [_, _]) 9 dX10_rough_207 vX10_308 (by omega) (mg_ob hS) rfl rfl (Nat.le_of_ble_eq_true rfl) ?_
  refine m_turn (by omega) hS hb2 hn hn2 (fun q => ?_) (fun q => ?_)
  · refine g_vret dX10_rough_210 rfl ?_
    exact k1 q
  · refine g_vret dX10_rough_210 rfl ?_
    exact k2 q
