set_option maxHeartbeats 4000000 in
set_option maxRecDepth 20000 in
theorem m_whole0 {g : GE} {d : Nat} {w : GW} {σ : MW} {Q : Option Value → GW → Prop} (hS : SK g w) {p b c n : Nat} (hp : p < 160) (ha : mA σ 1 p = 0) (hb : mA σ 2 p = nI b) (hb2 : b < 8) (hc : mA σ 3 p = nI c) (hc2 : c < 8) (hn : mI σ 22 = nI n) (hn2 : n < 600) (k : Q none (put g (sD σ 11 b (FP.i2d (sWhole 0 (FP.d2i (mD σ 11 b)) (FP.d2i (mD σ 11 c))))) w)) : gM g d mX10_whole [.ref (eB g + 70), .int (nI p)] (put g σ w) Q := by
  refine gM.of (by decide) (Nat.le_of_ble_eq_true rfl) ?_
  refine g_aload_n dX10_whole_0 rfl ?_
  refine mg_getA 12 11 dX10_whole_1 fX10_43 rfl rt_11 hS ?_
  refine g_aload_n dX10_whole_4 rfl ?_
  refine mg_getA 2 2 dX10_whole_5 fX10_16 rfl rt_2 hS ?_
  refine g_iload_n dX10_whole_8 rfl ?_
  refine mg_iald dX10_whole_9 rfl rfl rfl (by omega) hS ?_
  rw [hb]
  refine mg_dald dX10_whole_10 (by first | exact rfl | assumption) rfl rfl (by omega) hS ?_
  refine g_d2i dX10_whole_11 ?_
  refine g_istore_n dX10_whole_12 (by decide) rfl ?_
  refine g_aload_n dX10_whole_13 rfl ?_
  refine mg_getA 12 11 dX10_whole_14 fX10_43 rfl rt_11 hS ?_
  refine g_aload_n dX10_whole_17 rfl ?_
  refine mg_getA 3 3 dX10_whole_18 fX10_19 rfl rt_3 hS ?_
  refine g_iload_n dX10_whole_21 rfl ?_
  refine mg_iald dX10_whole_22 rfl rfl rfl (by omega) hS ?_
  rw [hc]
  refine mg_dald dX10_whole_23 (by first | exact rfl | assumption) rfl rfl (by omega) hS ?_
  refine g_d2i dX10_whole_24 ?_
  refine g_istore_n dX10_whole_25 (by decide) rfl ?_
  refine g_aload_n dX10_whole_26 rfl ?_
  refine mg_getA 1 1 dX10_whole_27 fX10_13 rfl rt_1 hS ?_
  refine g_iload_n dX10_whole_30 rfl ?_
  refine mg_iald dX10_whole_31 rfl rfl rfl (by omega) hS ?_
  rw [ha]
  refine g_istore dX10_whole_32 (by decide) rfl ?_
  refine g_iload dX10_whole_34 rfl ?_
  refine g_iconstV (v := 3) dX10_whole_36 (by decide) ?_
  refine g_icmp_eq 46 dX10_whole_37 (by decide) (fun q => absurd q (by decide)) (fun _ => ?_)
  refine g_iload dX10_whole_40 rfl ?_
  refine g_iconstV (v := 4) dX10_whole_42 (by decide) ?_
  refine g_icmp_ne 57 dX10_whole_43 (by decide) (fun _ => ?_) (fun q => absurd q (by decide))
  refine g_iload dX10_whole_57 rfl ?_
  refine g_tableIn (off := 41) 100 dX10_whole_59 (by rw [show (0 : Int32) = 0 from rfl]; decide) (by rw [show (0 : Int32) = 0 from rfl]; decide) (by rw [show (0 : Int32) = 0 from rfl]; rfl) (by decide) ?_
  refine g_iload_n dX10_whole_100 rfl ?_
  refine g_iload_n dX10_whole_101 rfl ?_
  refine g_iadd dX10_whole_102 ?_
  refine g_istore dX10_whole_103 (by decide) rfl ?_
  refine g_goto 161 dX10_whole_105 (by decide) ?_
  refine g_aload_n dX10_whole_161 rfl ?_
  refine mg_getA 12 11 dX10_whole_162 fX10_43 rfl rt_11 hS ?_
  refine g_aload_n dX10_whole_165 rfl ?_
  refine mg_getA 2 2 dX10_whole_166 fX10_16 rfl rt_2 hS ?_
  refine g_iload_n dX10_whole_169 rfl ?_
  refine mg_iald dX10_whole_170 rfl rfl rfl (by omega) hS ?_
  rw [hb]
  refine g_iload dX10_whole_171 rfl ?_
  refine g_i2d dX10_whole_173 ?_
  refine mg_dast dX10_whole_174 (by first | exact rfl | assumption) rfl rfl (by omega) hS ?_
  refine g_vret dX10_whole_175 rfl ?_
  simpa [sWhole] using k
set_option maxHeartbeats 4000000 in
set_option maxRecDepth 20000 in
theorem m_whole1 {g : GE} {d : Nat} {w : GW} {σ : MW} {Q : Option Value → GW → Prop} (hS : SK g w) {p b c n : Nat} (hp : p < 160) (ha : mA σ 1 p = 1) (hb : mA σ 2 p = nI b) (hb2 : b < 8) (hc : mA σ 3 p = nI c) (hc2 : c < 8) (hn : mI σ 22 = nI n) (hn2 : n < 600) (k : Q none (put g (sD σ 11 b (FP.i2d (sWhole 1 (FP.d2i (mD σ 11 b)) (FP.d2i (mD σ 11 c))))) w)) : gM g d mX10_whole [.ref (eB g + 70), .int (nI p)] (put g σ w) Q := by
  refine gM.of (by decide) (Nat.le_of_ble_eq_true rfl) ?_
  refine g_aload_n dX10_whole_0 rfl ?_
  refine mg_getA 12 11 dX10_whole_1 fX10_43 rfl rt_11 hS ?_
  refine g_aload_n dX10_whole_4 rfl ?_
  refine mg_getA 2 2 dX10_whole_5 fX10_16 rfl rt_2 hS ?_
  refine g_iload_n dX10_whole_8 rfl ?_
  refine mg_iald dX10_whole_9 rfl rfl rfl (by omega) hS ?_
  rw [hb]
  refine mg_dald dX10_whole_10 (by first | exact rfl | assumption) rfl rfl (by omega) hS ?_
  refine g_d2i dX10_whole_11 ?_
  refine g_istore_n dX10_whole_12 (by decide) rfl ?_
  refine g_aload_n dX10_whole_13 rfl ?_
  refine mg_getA 12 11 dX10_whole_14 fX10_43 rfl rt_11 hS ?_
  refine g_aload_n dX10_whole_17 rfl ?_
  refine mg_getA 3 3 dX10_whole_18 fX10_19 rfl rt_3 hS ?_
  refine g_iload_n dX10_whole_21 rfl ?_
  refine mg_iald dX10_whole_22 rfl rfl rfl (by omega) hS ?_
  rw [hc]
  refine mg_dald dX10_whole_23 (by first | exact rfl | assumption) rfl rfl (by omega) hS ?_
  refine g_d2i dX10_whole_24 ?_
  refine g_istore_n dX10_whole_25 (by decide) rfl ?_
  refine g_aload_n dX10_whole_26 rfl ?_
  refine mg_getA 1 1 dX10_whole_27 fX10_13 rfl rt_1 hS ?_
  refine g_iload_n dX10_whole_30 rfl ?_
  refine mg_iald dX10_whole_31 rfl rfl rfl (by omega) hS ?_
  rw [ha]
  refine g_istore dX10_whole_32 (by decide) rfl ?_
  refine g_iload dX10_whole_34 rfl ?_
  refine g_iconstV (v := 3) dX10_whole_36 (by decide) ?_
  refine g_icmp_eq 46 dX10_whole_37 (by decide) (fun q => absurd q (by decide)) (fun _ => ?_)
  refine g_iload dX10_whole_40 rfl ?_
  refine g_iconstV (v := 4) dX10_whole_42 (by decide) ?_
  refine g_icmp_ne 57 dX10_whole_43 (by decide) (fun _ => ?_) (fun q => absurd q (by decide))
  refine g_iload dX10_whole_57 rfl ?_
  refine g_tableIn (off := 49) 108 dX10_whole_59 (by rw [show (1 : Int32) = 1 from rfl]; decide) (by rw [show (1 : Int32) = 1 from rfl]; decide) (by rw [show (1 : Int32) = 1 from rfl]; rfl) (by decide) ?_
  refine g_iload_n dX10_whole_108 rfl ?_
  refine g_iload_n dX10_whole_109 rfl ?_
  refine g_isub dX10_whole_110 ?_
  refine g_istore dX10_whole_111 (by decide) rfl ?_
  refine g_goto 161 dX10_whole_113 (by decide) ?_
  refine g_aload_n dX10_whole_161 rfl ?_
  refine mg_getA 12 11 dX10_whole_162 fX10_43 rfl rt_11 hS ?_
  refine g_aload_n dX10_whole_165 rfl ?_
  refine mg_getA 2 2 dX10_whole_166 fX10_16 rfl rt_2 hS ?_
  refine g_iload_n dX10_whole_169 rfl ?_
  refine mg_iald dX10_whole_170 rfl rfl rfl (by omega) hS ?_
  rw [hb]
  refine g_iload dX10_whole_171 rfl ?_
  refine g_i2d dX10_whole_173 ?_
  refine mg_dast dX10_whole_174 (by first | exact rfl | assumption) rfl rfl (by omega) hS ?_
  refine g_vret dX10_whole_175 rfl ?_
  simpa [sWhole] using k
set_option maxHeartbeats 4000000 in
set_option maxRecDepth 20000 in
theorem m_whole2 {g : GE} {d : Nat} {w : GW} {σ : MW} {Q : Option Value → GW → Prop} (hS : SK g w) {p b c n : Nat} (hp : p < 160) (ha : mA σ 1 p = 2) (hb : mA σ 2 p = nI b) (hb2 : b < 8) (hc : mA σ 3 p = nI c) (hc2 : c < 8) (hn : mI σ 22 = nI n) (hn2 : n < 600) (k : Q none (put g (sD σ 11 b (FP.i2d (sWhole 2 (FP.d2i (mD σ 11 b)) (FP.d2i (mD σ 11 c))))) w)) : gM g d mX10_whole [.ref (eB g + 70), .int (nI p)] (put g σ w) Q := by
  refine gM.of (by decide) (Nat.le_of_ble_eq_true rfl) ?_
  refine g_aload_n dX10_whole_0 rfl ?_
  refine mg_getA 12 11 dX10_whole_1 fX10_43 rfl rt_11 hS ?_
  refine g_aload_n dX10_whole_4 rfl ?_
  refine mg_getA 2 2 dX10_whole_5 fX10_16 rfl rt_2 hS ?_
  refine g_iload_n dX10_whole_8 rfl ?_
  refine mg_iald dX10_whole_9 rfl rfl rfl (by omega) hS ?_
  rw [hb]
  refine mg_dald dX10_whole_10 (by first | exact rfl | assumption) rfl rfl (by omega) hS ?_
  refine g_d2i dX10_whole_11 ?_
  refine g_istore_n dX10_whole_12 (by decide) rfl ?_
  refine g_aload_n dX10_whole_13 rfl ?_
  refine mg_getA 12 11 dX10_whole_14 fX10_43 rfl rt_11 hS ?_
  refine g_aload_n dX10_whole_17 rfl ?_
  refine mg_getA 3 3 dX10_whole_18 fX10_19 rfl rt_3 hS ?_
  refine g_iload_n dX10_whole_21 rfl ?_
  refine mg_iald dX10_whole_22 rfl rfl rfl (by omega) hS ?_
  rw [hc]
  refine mg_dald dX10_whole_23 (by first | exact rfl | assumption) rfl rfl (by omega) hS ?_
  refine g_d2i dX10_whole_24 ?_
  refine g_istore_n dX10_whole_25 (by decide) rfl ?_
  refine g_aload_n dX10_whole_26 rfl ?_
  refine mg_getA 1 1 dX10_whole_27 fX10_13 rfl rt_1 hS ?_
  refine g_iload_n dX10_whole_30 rfl ?_
  refine mg_iald dX10_whole_31 rfl rfl rfl (by omega) hS ?_
  rw [ha]
  refine g_istore dX10_whole_32 (by decide) rfl ?_
  refine g_iload dX10_whole_34 rfl ?_
  refine g_iconstV (v := 3) dX10_whole_36 (by decide) ?_
  refine g_icmp_eq 46 dX10_whole_37 (by decide) (fun q => absurd q (by decide)) (fun _ => ?_)
  refine g_iload dX10_whole_40 rfl ?_
  refine g_iconstV (v := 4) dX10_whole_42 (by decide) ?_
  refine g_icmp_ne 57 dX10_whole_43 (by decide) (fun _ => ?_) (fun q => absurd q (by decide))
  refine g_iload dX10_whole_57 rfl ?_
  refine g_tableIn (off := 57) 116 dX10_whole_59 (by rw [show (2 : Int32) = 2 from rfl]; decide) (by rw [show (2 : Int32) = 2 from rfl]; decide) (by rw [show (2 : Int32) = 2 from rfl]; rfl) (by decide) ?_
  refine g_iload_n dX10_whole_116 rfl ?_
  refine g_iload_n dX10_whole_117 rfl ?_
  refine g_imul dX10_whole_118 ?_
  refine g_istore dX10_whole_119 (by decide) rfl ?_
  refine g_goto 161 dX10_whole_121 (by decide) ?_
  refine g_aload_n dX10_whole_161 rfl ?_
  refine mg_getA 12 11 dX10_whole_162 fX10_43 rfl rt_11 hS ?_
  refine g_aload_n dX10_whole_165 rfl ?_
  refine mg_getA 2 2 dX10_whole_166 fX10_16 rfl rt_2 hS ?_
  refine g_iload_n dX10_whole_169 rfl ?_
  refine mg_iald dX10_whole_170 rfl rfl rfl (by omega) hS ?_
  rw [hb]
  refine g_iload dX10_whole_171 rfl ?_
  refine g_i2d dX10_whole_173 ?_
  refine mg_dast dX10_whole_174 (by first | exact rfl | assumption) rfl rfl (by omega) hS ?_
  refine g_vret dX10_whole_175 rfl ?_
  simpa [sWhole] using k
set_option maxHeartbeats 4000000 in
set_option maxRecDepth 20000 in
theorem m_whole3z {g : GE} {d : Nat} {w : GW} {σ : MW} {Q : Option Value → GW → Prop} (hd : 2 ≤ d) (hS : SK g w) {p b c n : Nat} (hp : p < 160) (ha : mA σ 1 p = 3) (hb : mA σ 2 p = nI b) (hb2 : b < 8) (hc : mA σ 3 p = nI c) (hc2 : c < 8) (hn : mI σ 22 = nI n) (hn2 : n < 600) (hz : (FP.d2i (mD σ 11 c)) = 0) (k : Q none (put g (mFail σ n 7) w)) : gM g d mX10_whole [.ref (eB g + 70), .int (nI p)] (put g σ w) Q := by
  refine gM.of (by decide) (Nat.le_of_ble_eq_true rfl) ?_
  refine g_aload_n dX10_whole_0 rfl ?_
  refine mg_getA 12 11 dX10_whole_1 fX10_43 rfl rt_11 hS ?_
  refine g_aload_n dX10_whole_4 rfl ?_
  refine mg_getA 2 2 dX10_whole_5 fX10_16 rfl rt_2 hS ?_
  refine g_iload_n dX10_whole_8 rfl ?_
  refine mg_iald dX10_whole_9 rfl rfl rfl (by omega) hS ?_
  rw [hb]
  refine mg_dald dX10_whole_10 (by first | exact rfl | assumption) rfl rfl (by omega) hS ?_
  refine g_d2i dX10_whole_11 ?_
  refine g_istore_n dX10_whole_12 (by decide) rfl ?_
  refine g_aload_n dX10_whole_13 rfl ?_
  refine mg_getA 12 11 dX10_whole_14 fX10_43 rfl rt_11 hS ?_
  refine g_aload_n dX10_whole_17 rfl ?_
  refine mg_getA 3 3 dX10_whole_18 fX10_19 rfl rt_3 hS ?_
  refine g_iload_n dX10_whole_21 rfl ?_
  refine mg_iald dX10_whole_22 rfl rfl rfl (by omega) hS ?_
  rw [hc]
  refine mg_dald dX10_whole_23 (by first | exact rfl | assumption) rfl rfl (by omega) hS ?_
  refine g_d2i dX10_whole_24 ?_
  refine g_istore_n dX10_whole_25 (by decide) rfl ?_
  refine g_aload_n dX10_whole_26 rfl ?_
  refine mg_getA 1 1 dX10_whole_27 fX10_13 rfl rt_1 hS ?_
  refine g_iload_n dX10_whole_30 rfl ?_
  refine mg_iald dX10_whole_31 rfl rfl rfl (by omega) hS ?_
  rw [ha]
  refine g_istore dX10_whole_32 (by decide) rfl ?_
  refine g_iload dX10_whole_34 rfl ?_
  refine g_iconstV (v := 3) dX10_whole_36 (by decide) ?_
  refine g_icmp_eq 46 dX10_whole_37 (by decide) (fun _ => ?_) (fun q => absurd (rfl) q)
  refine g_iload_n dX10_whole_46 rfl ?_
  refine g_if_ne 57 dX10_whole_47 (by decide) (fun q => absurd (hz) q) (fun _ => ?_)
  refine g_aload_n dX10_whole_50 rfl ?_
  refine g_bipushV (v := 7) dX10_whole_51 (by decide) ?_
  refine g_callV (d1 := d - 1) (As := [_]) 9 dX10_whole_53 vX10_191 (by omega) (mg_ob hS) rfl rfl (Nat.le_of_ble_eq_true rfl) ?_
  refine m_fail (by omega) hS hn hn2 ?_
  refine g_vret dX10_whole_56 rfl ?_
  exact k
set_option maxHeartbeats 4000000 in
set_option maxRecDepth 20000 in
theorem m_whole3 {g : GE} {d : Nat} {w : GW} {σ : MW} {Q : Option Value → GW → Prop} (hS : SK g w) {p b c n : Nat} (hp : p < 160) (ha : mA σ 1 p = 3) (hb : mA σ 2 p = nI b) (hb2 : b < 8) (hc : mA σ 3 p = nI c) (hc2 : c < 8) (hn : mI σ 22 = nI n) (hn2 : n < 600) (hz : ¬ (FP.d2i (mD σ 11 c)) = 0) (k : Q none (put g (sD σ 11 b (FP.i2d (sWhole 3 (FP.d2i (mD σ 11 b)) (FP.d2i (mD σ 11 c))))) w)) : gM g d mX10_whole [.ref (eB g + 70), .int (nI p)] (put g σ w) Q := by
  refine gM.of (by decide) (Nat.le_of_ble_eq_true rfl) ?_
  refine g_aload_n dX10_whole_0 rfl ?_
  refine mg_getA 12 11 dX10_whole_1 fX10_43 rfl rt_11 hS ?_
  refine g_aload_n dX10_whole_4 rfl ?_
  refine mg_getA 2 2 dX10_whole_5 fX10_16 rfl rt_2 hS ?_
  refine g_iload_n dX10_whole_8 rfl ?_
  refine mg_iald dX10_whole_9 rfl rfl rfl (by omega) hS ?_
  rw [hb]
  refine mg_dald dX10_whole_10 (by first | exact rfl | assumption) rfl rfl (by omega) hS ?_
  refine g_d2i dX10_whole_11 ?_
  refine g_istore_n dX10_whole_12 (by decide) rfl ?_
  refine g_aload_n dX10_whole_13 rfl ?_
  refine mg_getA 12 11 dX10_whole_14 fX10_43 rfl rt_11 hS ?_
  refine g_aload_n dX10_whole_17 rfl ?_
  refine mg_getA 3 3 dX10_whole_18 fX10_19 rfl rt_3 hS ?_
  refine g_iload_n dX10_whole_21 rfl ?_
  refine mg_iald dX10_whole_22 rfl rfl rfl (by omega) hS ?_
  rw [hc]
  refine mg_dald dX10_whole_23 (by first | exact rfl | assumption) rfl rfl (by omega) hS ?_
  refine g_d2i dX10_whole_24 ?_
  refine g_istore_n dX10_whole_25 (by decide) rfl ?_
  refine g_aload_n dX10_whole_26 rfl ?_
  refine mg_getA 1 1 dX10_whole_27 fX10_13 rfl rt_1 hS ?_
  refine g_iload_n dX10_whole_30 rfl ?_
  refine mg_iald dX10_whole_31 rfl rfl rfl (by omega) hS ?_
  rw [ha]
  refine g_istore dX10_whole_32 (by decide) rfl ?_
  refine g_iload dX10_whole_34 rfl ?_
  refine g_iconstV (v := 3) dX10_whole_36 (by decide) ?_
  refine g_icmp_eq 46 dX10_whole_37 (by decide) (fun _ => ?_) (fun q => absurd (rfl) q)
  refine g_iload_n dX10_whole_46 rfl ?_
  refine g_if_ne 57 dX10_whole_47 (by decide) (fun _ => ?_) (fun q => absurd q (hz))
  refine g_iload dX10_whole_57 rfl ?_
  refine g_tableIn (off := 65) 124 dX10_whole_59 (by rw [show (3 : Int32) = 3 from rfl]; decide) (by rw [show (3 : Int32) = 3 from rfl]; decide) (by rw [show (3 : Int32) = 3 from rfl]; rfl) (by decide) ?_
  refine g_iload_n dX10_whole_124 rfl ?_
  refine g_iload_n dX10_whole_125 rfl ?_
  refine g_idiv dX10_whole_126 hz ?_
  refine g_istore dX10_whole_127 (by decide) rfl ?_
  refine g_goto 161 dX10_whole_129 (by decide) ?_
  refine g_aload_n dX10_whole_161 rfl ?_
  refine mg_getA 12 11 dX10_whole_162 fX10_43 rfl rt_11 hS ?_
  refine g_aload_n dX10_whole_165 rfl ?_
  refine mg_getA 2 2 dX10_whole_166 fX10_16 rfl rt_2 hS ?_
  refine g_iload_n dX10_whole_169 rfl ?_
  refine mg_iald dX10_whole_170 rfl rfl rfl (by omega) hS ?_
  rw [hb]
  refine g_iload dX10_whole_171 rfl ?_
  refine g_i2d dX10_whole_173 ?_
  refine mg_dast dX10_whole_174 (by first | exact rfl | assumption) rfl rfl (by omega) hS ?_
  refine g_vret dX10_whole_175 rfl ?_
  simpa [sWhole, hz] using k
set_option maxHeartbeats 4000000 in
set_option maxRecDepth 20000 in
theorem m_whole4z {g : GE} {d : Nat} {w : GW} {σ : MW} {Q : Option Value → GW → Prop} (hd : 2 ≤ d) (hS : SK g w) {p b c n : Nat} (hp : p < 160) (ha : mA σ 1 p = 4) (hb : mA σ 2 p = nI b) (hb2 : b < 8) (hc : mA σ 3 p = nI c) (hc2 : c < 8) (hn : mI σ 22 = nI n) (hn2 : n < 600) (hz : (FP.d2i (mD σ 11 c)) = 0) (k : Q none (put g (mFail σ n 7) w)) : gM g d mX10_whole [.ref (eB g + 70), .int (nI p)] (put g σ w) Q := by
  refine gM.of (by decide) (Nat.le_of_ble_eq_true rfl) ?_
  refine g_aload_n dX10_whole_0 rfl ?_
  refine mg_getA 12 11 dX10_whole_1 fX10_43 rfl rt_11 hS ?_
  refine g_aload_n dX10_whole_4 rfl ?_
  refine mg_getA 2 2 dX10_whole_5 fX10_16 rfl rt_2 hS ?_
  refine g_iload_n dX10_whole_8 rfl ?_
  refine mg_iald dX10_whole_9 rfl rfl rfl (by omega) hS ?_
  rw [hb]
  refine mg_dald dX10_whole_10 (by first | exact rfl | assumption) rfl rfl (by omega) hS ?_
  refine g_d2i dX10_whole_11 ?_
  refine g_istore_n dX10_whole_12 (by decide) rfl ?_
  refine g_aload_n dX10_whole_13 rfl ?_
  refine mg_getA 12 11 dX10_whole_14 fX10_43 rfl rt_11 hS ?_
  refine g_aload_n dX10_whole_17 rfl ?_
  refine mg_getA 3 3 dX10_whole_18 fX10_19 rfl rt_3 hS ?_
  refine g_iload_n dX10_whole_21 rfl ?_
  refine mg_iald dX10_whole_22 rfl rfl rfl (by omega) hS ?_
  rw [hc]
  refine mg_dald dX10_whole_23 (by first | exact rfl | assumption) rfl rfl (by omega) hS ?_
  refine g_d2i dX10_whole_24 ?_
  refine g_istore_n dX10_whole_25 (by decide) rfl ?_
  refine g_aload_n dX10_whole_26 rfl ?_
  refine mg_getA 1 1 dX10_whole_27 fX10_13 rfl rt_1 hS ?_
  refine g_iload_n dX10_whole_30 rfl ?_
  refine mg_iald dX10_whole_31 rfl rfl rfl (by omega) hS ?_
  rw [ha]
  refine g_istore dX10_whole_32 (by decide) rfl ?_
  refine g_iload dX10_whole_34 rfl ?_
  refine g_iconstV (v := 3) dX10_whole_36 (by decide) ?_
  refine g_icmp_eq 46 dX10_whole_37 (by decide) (fun q => absurd q (by decide)) (fun _ => ?_)
  refine g_iload dX10_whole_40 rfl ?_
  refine g_iconstV (v := 4) dX10_whole_42 (by decide) ?_
  refine g_icmp_ne 57 dX10_whole_43 (by decide) (fun q => absurd (rfl) q) (fun _ => ?_)
  refine g_iload_n dX10_whole_46 rfl ?_
  refine g_if_ne 57 dX10_whole_47 (by decide) (fun q => absurd (hz) q) (fun _ => ?_)
  refine g_aload_n dX10_whole_50 rfl ?_
  refine g_bipushV (v := 7) dX10_whole_51 (by decide) ?_
  refine g_callV (d1 := d - 1) (As := [_]) 9 dX10_whole_53 vX10_191 (by omega) (mg_ob hS) rfl rfl (Nat.le_of_ble_eq_true rfl) ?_
  refine m_fail (by omega) hS hn hn2 ?_
  refine g_vret dX10_whole_56 rfl ?_
  exact k
set_option maxHeartbeats 4000000 in
set_option maxRecDepth 20000 in
theorem m_whole4 {g : GE} {d : Nat} {w : GW} {σ : MW} {Q : Option Value → GW → Prop} (hS : SK g w) {p b c n : Nat} (hp : p < 160) (ha : mA σ 1 p = 4) (hb : mA σ 2 p = nI b) (hb2 : b < 8) (hc : mA σ 3 p = nI c) (hc2 : c < 8) (hn : mI σ 22 = nI n) (hn2 : n < 600) (hz : ¬ (FP.d2i (mD σ 11 c)) = 0) (k : Q none (put g (sD σ 11 b (FP.i2d (sWhole 4 (FP.d2i (mD σ 11 b)) (FP.d2i (mD σ 11 c))))) w)) : gM g d mX10_whole [.ref (eB g + 70), .int (nI p)] (put g σ w) Q := by
  refine gM.of (by decide) (Nat.le_of_ble_eq_true rfl) ?_
  refine g_aload_n dX10_whole_0 rfl ?_
  refine mg_getA 12 11 dX10_whole_1 fX10_43 rfl rt_11 hS ?_
  refine g_aload_n dX10_whole_4 rfl ?_
  refine mg_getA 2 2 dX10_whole_5 fX10_16 rfl rt_2 hS ?_
  refine g_iload_n dX10_whole_8 rfl ?_
  refine mg_iald dX10_whole_9 rfl rfl rfl (by omega) hS ?_
  rw [hb]
  refine mg_dald dX10_whole_10 (by first | exact rfl | assumption) rfl rfl (by omega) hS ?_
  refine g_d2i dX10_whole_11 ?_
  refine g_istore_n dX10_whole_12 (by decide) rfl ?_
  refine g_aload_n dX10_whole_13 rfl ?_
  refine mg_getA 12 11 dX10_whole_14 fX10_43 rfl rt_11 hS ?_
  refine g_aload_n dX10_whole_17 rfl ?_
  refine mg_getA 3 3 dX10_whole_18 fX10_19 rfl rt_3 hS ?_
  refine g_iload_n dX10_whole_21 rfl ?_
  refine mg_iald dX10_whole_22 rfl rfl rfl (by omega) hS ?_
  rw [hc]
  refine mg_dald dX10_whole_23 (by first | exact rfl | assumption) rfl rfl (by omega) hS ?_
  refine g_d2i dX10_whole_24 ?_
  refine g_istore_n dX10_whole_25 (by decide) rfl ?_
  refine g_aload_n dX10_whole_26 rfl ?_
  refine mg_getA 1 1 dX10_whole_27 fX10_13 rfl rt_1 hS ?_
  refine g_iload_n dX10_whole_30 rfl ?_
  refine mg_iald dX10_whole_31 rfl rfl rfl (by omega) hS ?_
  rw [ha]
  refine g_istore dX10_whole_32 (by decide) rfl ?_
  refine g_iload dX10_whole_34 rfl ?_
  refine g_iconstV (v := 3) dX10_whole_36 (by decide) ?_
  refine g_icmp_eq 46 dX10_whole_37 (by decide) (fun q => absurd q (by decide)) (fun _ => ?_)
  refine g_iload dX10_whole_40 rfl ?_
  refine g_iconstV (v := 4) dX10_whole_42 (by decide) ?_
  refine g_icmp_ne 57 dX10_whole_43 (by decide) (fun q => absurd (rfl) q) (fun _ => ?_)
  refine g_iload_n dX10_whole_46 rfl ?_
  refine g_if_ne 57 dX10_whole_47 (by decide) (fun _ => ?_) (fun q => absurd q (hz))
  refine g_iload dX10_whole_57 rfl ?_
  refine g_tableIn (off := 73) 132 dX10_whole_59 (by rw [show (4 : Int32) = 4 from rfl]; decide) (by rw [show (4 : Int32) = 4 from rfl]; decide) (by rw [show (4 : Int32) = 4 from rfl]; rfl) (by decide) ?_
  refine g_iload_n dX10_whole_132 rfl ?_
  refine g_iload_n dX10_whole_133 rfl ?_
  refine g_irem dX10_whole_134 hz ?_
  refine g_istore dX10_whole_135 (by decide) rfl ?_
  refine g_goto 161 dX10_whole_137 (by decide) ?_
  refine g_aload_n dX10_whole_161 rfl ?_
  refine mg_getA 12 11 dX10_whole_162 fX10_43 rfl rt_11 hS ?_
  refine g_aload_n dX10_whole_165 rfl ?_
  refine mg_getA 2 2 dX10_whole_166 fX10_16 rfl rt_2 hS ?_
  refine g_iload_n dX10_whole_169 rfl ?_
  refine mg_iald dX10_whole_170 rfl rfl rfl (by omega) hS ?_
  rw [hb]
  refine g_iload dX10_whole_171 rfl ?_
  refine g_i2d dX10_whole_173 ?_
  refine mg_dast dX10_whole_174 (by first | exact rfl | assumption) rfl rfl (by omega) hS ?_
  refine g_vret dX10_whole_175 rfl ?_
  simpa [sWhole, hz] using k
set_option maxHeartbeats 4000000 in
set_option maxRecDepth 20000 in
theorem m_whole5 {g : GE} {d : Nat} {w : GW} {σ : MW} {Q : Option Value → GW → Prop} (hS : SK g w) {p b c n : Nat} (hp : p < 160) (ha : mA σ 1 p = 5) (hb : mA σ 2 p = nI b) (hb2 : b < 8) (hc : mA σ 3 p = nI c) (hc2 : c < 8) (hn : mI σ 22 = nI n) (hn2 : n < 600) (k : Q none (put g (sD σ 11 b (FP.i2d (sWhole 5 (FP.d2i (mD σ 11 b)) (FP.d2i (mD σ 11 c))))) w)) : gM g d mX10_whole [.ref (eB g + 70), .int (nI p)] (put g σ w) Q := by
  refine gM.of (by decide) (Nat.le_of_ble_eq_true rfl) ?_
  refine g_aload_n dX10_whole_0 rfl ?_
  refine mg_getA 12 11 dX10_whole_1 fX10_43 rfl rt_11 hS ?_
  refine g_aload_n dX10_whole_4 rfl ?_
  refine mg_getA 2 2 dX10_whole_5 fX10_16 rfl rt_2 hS ?_
  refine g_iload_n dX10_whole_8 rfl ?_
  refine mg_iald dX10_whole_9 rfl rfl rfl (by omega) hS ?_
  rw [hb]
  refine mg_dald dX10_whole_10 (by first | exact rfl | assumption) rfl rfl (by omega) hS ?_
  refine g_d2i dX10_whole_11 ?_
  refine g_istore_n dX10_whole_12 (by decide) rfl ?_
  refine g_aload_n dX10_whole_13 rfl ?_
  refine mg_getA 12 11 dX10_whole_14 fX10_43 rfl rt_11 hS ?_
  refine g_aload_n dX10_whole_17 rfl ?_
  refine mg_getA 3 3 dX10_whole_18 fX10_19 rfl rt_3 hS ?_
  refine g_iload_n dX10_whole_21 rfl ?_
  refine mg_iald dX10_whole_22 rfl rfl rfl (by omega) hS ?_
  rw [hc]
  refine mg_dald dX10_whole_23 (by first | exact rfl | assumption) rfl rfl (by omega) hS ?_
  refine g_d2i dX10_whole_24 ?_
  refine g_istore_n dX10_whole_25 (by decide) rfl ?_
  refine g_aload_n dX10_whole_26 rfl ?_
  refine mg_getA 1 1 dX10_whole_27 fX10_13 rfl rt_1 hS ?_
  refine g_iload_n dX10_whole_30 rfl ?_
  refine mg_iald dX10_whole_31 rfl rfl rfl (by omega) hS ?_
  rw [ha]
  refine g_istore dX10_whole_32 (by decide) rfl ?_
  refine g_iload dX10_whole_34 rfl ?_
  refine g_iconstV (v := 3) dX10_whole_36 (by decide) ?_
  refine g_icmp_eq 46 dX10_whole_37 (by decide) (fun q => absurd q (by decide)) (fun _ => ?_)
  refine g_iload dX10_whole_40 rfl ?_
  refine g_iconstV (v := 4) dX10_whole_42 (by decide) ?_
  refine g_icmp_ne 57 dX10_whole_43 (by decide) (fun _ => ?_) (fun q => absurd q (by decide))
  refine g_iload dX10_whole_57 rfl ?_
  refine g_tableIn (off := 81) 140 dX10_whole_59 (by rw [show (5 : Int32) = 5 from rfl]; decide) (by rw [show (5 : Int32) = 5 from rfl]; decide) (by rw [show (5 : Int32) = 5 from rfl]; rfl) (by decide) ?_
  refine g_iload_n dX10_whole_140 rfl ?_
  refine g_iload_n dX10_whole_141 rfl ?_
  refine g_iand dX10_whole_142 ?_
  refine g_istore dX10_whole_143 (by decide) rfl ?_
  refine g_goto 161 dX10_whole_145 (by decide) ?_
  refine g_aload_n dX10_whole_161 rfl ?_
  refine mg_getA 12 11 dX10_whole_162 fX10_43 rfl rt_11 hS ?_
  refine g_aload_n dX10_whole_165 rfl ?_
  refine mg_getA 2 2 dX10_whole_166 fX10_16 rfl rt_2 hS ?_
  refine g_iload_n dX10_whole_169 rfl ?_
  refine mg_iald dX10_whole_170 rfl rfl rfl (by omega) hS ?_
  rw [hb]
  refine g_iload dX10_whole_171 rfl ?_
  refine g_i2d dX10_whole_173 ?_
  refine mg_dast dX10_whole_174 (by first | exact rfl | assumption) rfl rfl (by omega) hS ?_
  refine g_vret dX10_whole_175 rfl ?_
  simpa [sWhole] using k
set_option maxHeartbeats 4000000 in
set_option maxRecDepth 20000 in
theorem m_whole6 {g : GE} {d : Nat} {w : GW} {σ : MW} {Q : Option Value → GW → Prop} (hS : SK g w) {p b c n : Nat} (hp : p < 160) (ha : mA σ 1 p = 6) (hb : mA σ 2 p = nI b) (hb2 : b < 8) (hc : mA σ 3 p = nI c) (hc2 : c < 8) (hn : mI σ 22 = nI n) (hn2 : n < 600) (k : Q none (put g (sD σ 11 b (FP.i2d (sWhole 6 (FP.d2i (mD σ 11 b)) (FP.d2i (mD σ 11 c))))) w)) : gM g d mX10_whole [.ref (eB g + 70), .int (nI p)] (put g σ w) Q := by
  refine gM.of (by decide) (Nat.le_of_ble_eq_true rfl) ?_
  refine g_aload_n dX10_whole_0 rfl ?_
  refine mg_getA 12 11 dX10_whole_1 fX10_43 rfl rt_11 hS ?_
  refine g_aload_n dX10_whole_4 rfl ?_
  refine mg_getA 2 2 dX10_whole_5 fX10_16 rfl rt_2 hS ?_
  refine g_iload_n dX10_whole_8 rfl ?_
  refine mg_iald dX10_whole_9 rfl rfl rfl (by omega) hS ?_
  rw [hb]
  refine mg_dald dX10_whole_10 (by first | exact rfl | assumption) rfl rfl (by omega) hS ?_
  refine g_d2i dX10_whole_11 ?_
  refine g_istore_n dX10_whole_12 (by decide) rfl ?_
  refine g_aload_n dX10_whole_13 rfl ?_
  refine mg_getA 12 11 dX10_whole_14 fX10_43 rfl rt_11 hS ?_
  refine g_aload_n dX10_whole_17 rfl ?_
  refine mg_getA 3 3 dX10_whole_18 fX10_19 rfl rt_3 hS ?_
  refine g_iload_n dX10_whole_21 rfl ?_
  refine mg_iald dX10_whole_22 rfl rfl rfl (by omega) hS ?_
  rw [hc]
  refine mg_dald dX10_whole_23 (by first | exact rfl | assumption) rfl rfl (by omega) hS ?_
  refine g_d2i dX10_whole_24 ?_
  refine g_istore_n dX10_whole_25 (by decide) rfl ?_
  refine g_aload_n dX10_whole_26 rfl ?_
  refine mg_getA 1 1 dX10_whole_27 fX10_13 rfl rt_1 hS ?_
  refine g_iload_n dX10_whole_30 rfl ?_
  refine mg_iald dX10_whole_31 rfl rfl rfl (by omega) hS ?_
  rw [ha]
  refine g_istore dX10_whole_32 (by decide) rfl ?_
  refine g_iload dX10_whole_34 rfl ?_
  refine g_iconstV (v := 3) dX10_whole_36 (by decide) ?_
  refine g_icmp_eq 46 dX10_whole_37 (by decide) (fun q => absurd q (by decide)) (fun _ => ?_)
  refine g_iload dX10_whole_40 rfl ?_
  refine g_iconstV (v := 4) dX10_whole_42 (by decide) ?_
  refine g_icmp_ne 57 dX10_whole_43 (by decide) (fun _ => ?_) (fun q => absurd q (by decide))
  refine g_iload dX10_whole_57 rfl ?_
  refine g_tableIn (off := 89) 148 dX10_whole_59 (by rw [show (6 : Int32) = 6 from rfl]; decide) (by rw [show (6 : Int32) = 6 from rfl]; decide) (by rw [show (6 : Int32) = 6 from rfl]; rfl) (by decide) ?_
  refine g_iload_n dX10_whole_148 rfl ?_
  refine g_iload_n dX10_whole_149 rfl ?_
  refine g_ior dX10_whole_150 ?_
  refine g_istore dX10_whole_151 (by decide) rfl ?_
  refine g_goto 161 dX10_whole_153 (by decide) ?_
  refine g_aload_n dX10_whole_161 rfl ?_
  refine mg_getA 12 11 dX10_whole_162 fX10_43 rfl rt_11 hS ?_
  refine g_aload_n dX10_whole_165 rfl ?_
  refine mg_getA 2 2 dX10_whole_166 fX10_16 rfl rt_2 hS ?_
  refine g_iload_n dX10_whole_169 rfl ?_
  refine mg_iald dX10_whole_170 rfl rfl rfl (by omega) hS ?_
  rw [hb]
  refine g_iload dX10_whole_171 rfl ?_
  refine g_i2d dX10_whole_173 ?_
  refine mg_dast dX10_whole_174 (by first | exact rfl | assumption) rfl rfl (by omega) hS ?_
  refine g_vret dX10_whole_175 rfl ?_
  simpa [sWhole] using k
set_option maxHeartbeats 4000000 in
set_option maxRecDepth 20000 in
theorem m_whole7 {g : GE} {d : Nat} {w : GW} {σ : MW} {Q : Option Value → GW → Prop} (hS : SK g w) {p b c n : Nat} (hp : p < 160) (ha : mA σ 1 p = 7) (hb : mA σ 2 p = nI b) (hb2 : b < 8) (hc : mA σ 3 p = nI c) (hc2 : c < 8) (hn : mI σ 22 = nI n) (hn2 : n < 600) (k : Q none (put g (sD σ 11 b (FP.i2d (sWhole 7 (FP.d2i (mD σ 11 b)) (FP.d2i (mD σ 11 c))))) w)) : gM g d mX10_whole [.ref (eB g + 70), .int (nI p)] (put g σ w) Q := by
  refine gM.of (by decide) (Nat.le_of_ble_eq_true rfl) ?_
  refine g_aload_n dX10_whole_0 rfl ?_
  refine mg_getA 12 11 dX10_whole_1 fX10_43 rfl rt_11 hS ?_
  refine g_aload_n dX10_whole_4 rfl ?_
  refine mg_getA 2 2 dX10_whole_5 fX10_16 rfl rt_2 hS ?_
  refine g_iload_n dX10_whole_8 rfl ?_
  refine mg_iald dX10_whole_9 rfl rfl rfl (by omega) hS ?_
  rw [hb]
  refine mg_dald dX10_whole_10 (by first | exact rfl | assumption) rfl rfl (by omega) hS ?_
  refine g_d2i dX10_whole_11 ?_
  refine g_istore_n dX10_whole_12 (by decide) rfl ?_
  refine g_aload_n dX10_whole_13 rfl ?_
  refine mg_getA 12 11 dX10_whole_14 fX10_43 rfl rt_11 hS ?_
  refine g_aload_n dX10_whole_17 rfl ?_
  refine mg_getA 3 3 dX10_whole_18 fX10_19 rfl rt_3 hS ?_
  refine g_iload_n dX10_whole_21 rfl ?_
  refine mg_iald dX10_whole_22 rfl rfl rfl (by omega) hS ?_
  rw [hc]
  refine mg_dald dX10_whole_23 (by first | exact rfl | assumption) rfl rfl (by omega) hS ?_
  refine g_d2i dX10_whole_24 ?_
  refine g_istore_n dX10_whole_25 (by decide) rfl ?_
  refine g_aload_n dX10_whole_26 rfl ?_
  refine mg_getA 1 1 dX10_whole_27 fX10_13 rfl rt_1 hS ?_
  refine g_iload_n dX10_whole_30 rfl ?_
  refine mg_iald dX10_whole_31 rfl rfl rfl (by omega) hS ?_
  rw [ha]
  refine g_istore dX10_whole_32 (by decide) rfl ?_
  refine g_iload dX10_whole_34 rfl ?_
  refine g_iconstV (v := 3) dX10_whole_36 (by decide) ?_
  refine g_icmp_eq 46 dX10_whole_37 (by decide) (fun q => absurd q (by decide)) (fun _ => ?_)
  refine g_iload dX10_whole_40 rfl ?_
  refine g_iconstV (v := 4) dX10_whole_42 (by decide) ?_
  refine g_icmp_ne 57 dX10_whole_43 (by decide) (fun _ => ?_) (fun q => absurd q (by decide))
  refine g_iload dX10_whole_57 rfl ?_
  refine g_tableOut 156 dX10_whole_59 (by rw [show (7 : Int32) = 7 from rfl]; decide) (by decide) ?_
  refine g_iload_n dX10_whole_156 rfl ?_
  refine g_iload_n dX10_whole_157 rfl ?_
  refine g_ixor dX10_whole_158 ?_
  refine g_istore dX10_whole_159 (by decide) rfl ?_
  refine g_aload_n dX10_whole_161 rfl ?_
  refine mg_getA 12 11 dX10_whole_162 fX10_43 rfl rt_11 hS ?_
  refine g_aload_n dX10_whole_165 rfl ?_
  refine mg_getA 2 2 dX10_whole_166 fX10_16 rfl rt_2 hS ?_
  refine g_iload_n dX10_whole_169 rfl ?_
  refine mg_iald dX10_whole_170 rfl rfl rfl (by omega) hS ?_
  rw [hb]
  refine g_iload dX10_whole_171 rfl ?_
  refine g_i2d dX10_whole_173 ?_
  refine mg_dast dX10_whole_174 (by first | exact rfl | assumption) rfl rfl (by omega) hS ?_
  refine g_vret dX10_whole_175 rfl ?_
  simpa [sWhole] using k
set_option maxHeartbeats 4000000 in
set_option maxRecDepth 20000 in
theorem m_wide0 {g : GE} {d : Nat} {w : GW} {σ : MW} {Q : Option Value → GW → Prop} (hd : 3 ≤ d) (hS : SK g w) {p b c n : Nat} (hp : p < 160) (ha : mA σ 1 p = 0) (hb : mA σ 2 p = nI b) (hb2 : b < 8) (hc : mA σ 3 p = nI c) (hc2 : c < 8) (hn : mI σ 22 = nI n) (hn2 : n < 600) (k1 : fBeyond (FP.l2d (sWide 0 (FP.d2l (mD σ 11 b)) (FP.d2l (mD σ 11 c)))) → Q none (put g (mFail σ n 8) w)) (k2 : ¬ fBeyond (FP.l2d (sWide 0 (FP.d2l (mD σ 11 b)) (FP.d2l (mD σ 11 c)))) → Q none (put g (sD σ 11 b (FP.l2d (sWide 0 (FP.d2l (mD σ 11 b)) (FP.d2l (mD σ 11 c))))) w)) : gM g d mX10_wide [.ref (eB g + 70), .int (nI p)] (put g σ w) Q := by
  refine gM.of (by decide) (Nat.le_of_ble_eq_true rfl) ?_
  have ev : sWide 0 (FP.d2l (mD σ 11 b)) (FP.d2l (mD σ 11 c)) = (FP.d2l (mD σ 11 b)) + (FP.d2l (mD σ 11 c)) := by simp [sWide]
  rw [ev] at k1 k2
  refine g_aload_n dX10_wide_0 rfl ?_
  refine mg_getA 12 11 dX10_wide_1 fX10_43 rfl rt_11 hS ?_
  refine g_aload_n dX10_wide_4 rfl ?_
  refine mg_getA 2 2 dX10_wide_5 fX10_16 rfl rt_2 hS ?_
  refine g_iload_n dX10_wide_8 rfl ?_
  refine mg_iald dX10_wide_9 rfl rfl rfl (by omega) hS ?_
  rw [hb]
  refine mg_dald dX10_wide_10 (by first | exact rfl | assumption) rfl rfl (by omega) hS ?_
  refine g_d2l dX10_wide_11 ?_
  refine g_lstore_n dX10_wide_12 (by decide) rfl ?_
  refine g_aload_n dX10_wide_13 rfl ?_
  refine mg_getA 12 11 dX10_wide_14 fX10_43 rfl rt_11 hS ?_
  refine g_aload_n dX10_wide_17 rfl ?_
  refine mg_getA 3 3 dX10_wide_18 fX10_19 rfl rt_3 hS ?_
  refine g_iload_n dX10_wide_21 rfl ?_
  refine mg_iald dX10_wide_22 rfl rfl rfl (by omega) hS ?_
  rw [hc]
  refine mg_dald dX10_wide_23 (by first | exact rfl | assumption) rfl rfl (by omega) hS ?_
  refine g_d2l dX10_wide_24 ?_
  refine g_lstore dX10_wide_25 (by decide) rfl ?_
  refine g_aload_n dX10_wide_27 rfl ?_
  refine mg_getA 1 1 dX10_wide_28 fX10_13 rfl rt_1 hS ?_
  refine g_iload_n dX10_wide_31 rfl ?_
  refine mg_iald dX10_wide_32 rfl rfl rfl (by omega) hS ?_
  rw [ha]
  refine g_istore dX10_wide_33 (by decide) rfl ?_
  refine g_iload dX10_wide_35 rfl ?_
  refine g_iconstV (v := 3) dX10_wide_37 (by decide) ?_
  refine g_icmp_eq 47 dX10_wide_38 (by decide) (fun q => absurd q (by decide)) (fun _ => ?_)
  refine g_iload dX10_wide_41 rfl ?_
  refine g_iconstV (v := 4) dX10_wide_43 (by decide) ?_
  refine g_icmp_ne 61 dX10_wide_44 (by decide) (fun _ => ?_) (fun q => absurd q (by decide))
  refine g_iload dX10_wide_61 rfl ?_
  refine g_tableIn (off := 41) 104 dX10_wide_63 (by rw [show (0 : Int32) = 0 from rfl]; decide) (by rw [show (0 : Int32) = 0 from rfl]; decide) (by rw [show (0 : Int32) = 0 from rfl]; rfl) (by decide) ?_
  refine g_lload_n dX10_wide_104 rfl ?_
  refine g_lload dX10_wide_105 rfl ?_
  refine g_ladd dX10_wide_107 ?_
  refine g_lstore dX10_wide_108 (by decide) rfl ?_
  refine g_goto 173 dX10_wide_110 (by decide) ?_
  refine g_aload_n dX10_wide_173 rfl ?_
  refine g_aload_n dX10_wide_174 rfl ?_
  refine mg_getA 2 2 dX10_wide_175 fX10_16 rfl rt_2 hS ?_
  refine g_iload_n dX10_wide_178 rfl ?_
  refine mg_iald dX10_wide_179 rfl rfl rfl (by omega) hS ?_
  rw [hb]
  refine g_lload dX10_wide_180 rfl ?_
  refine g_l2d dX10_wide_182 ?_
  refine g_callV (d1 := d - 1) (As := [_, _]) 9 dX10_wide_183 vX10_308 (by omega) (mg_ob hS) rfl rfl (Nat.le_of_ble_eq_true rfl) ?_
  refine m_turn (by omega) hS hb2 hn hn2 (fun q => ?_) (fun q => ?_)
  · refine g_vret dX10_wide_186 rfl ?_
    exact k1 q
  · refine g_vret dX10_wide_186 rfl ?_
    exact k2 q
set_option maxHeartbeats 4000000 in
set_option maxRecDepth 20000 in
theorem m_wide1 {g : GE} {d : Nat} {w : GW} {σ : MW} {Q : Option Value → GW → Prop} (hd : 3 ≤ d) (hS : SK g w) {p b c n : Nat} (hp : p < 160) (ha : mA σ 1 p = 1) (hb : mA σ 2 p = nI b) (hb2 : b < 8) (hc : mA σ 3 p = nI c) (hc2 : c < 8) (hn : mI σ 22 = nI n) (hn2 : n < 600) (k1 : fBeyond (FP.l2d (sWide 1 (FP.d2l (mD σ 11 b)) (FP.d2l (mD σ 11 c)))) → Q none (put g (mFail σ n 8) w)) (k2 : ¬ fBeyond (FP.l2d (sWide 1 (FP.d2l (mD σ 11 b)) (FP.d2l (mD σ 11 c)))) → Q none (put g (sD σ 11 b (FP.l2d (sWide 1 (FP.d2l (mD σ 11 b)) (FP.d2l (mD σ 11 c))))) w)) : gM g d mX10_wide [.ref (eB g + 70), .int (nI p)] (put g σ w) Q := by
  refine gM.of (by decide) (Nat.le_of_ble_eq_true rfl) ?_
  have ev : sWide 1 (FP.d2l (mD σ 11 b)) (FP.d2l (mD σ 11 c)) = (FP.d2l (mD σ 11 b)) - (FP.d2l (mD σ 11 c)) := by simp [sWide]
  rw [ev] at k1 k2
  refine g_aload_n dX10_wide_0 rfl ?_
  refine mg_getA 12 11 dX10_wide_1 fX10_43 rfl rt_11 hS ?_
  refine g_aload_n dX10_wide_4 rfl ?_
  refine mg_getA 2 2 dX10_wide_5 fX10_16 rfl rt_2 hS ?_
  refine g_iload_n dX10_wide_8 rfl ?_
  refine mg_iald dX10_wide_9 rfl rfl rfl (by omega) hS ?_
  rw [hb]
  refine mg_dald dX10_wide_10 (by first | exact rfl | assumption) rfl rfl (by omega) hS ?_
  refine g_d2l dX10_wide_11 ?_
  refine g_lstore_n dX10_wide_12 (by decide) rfl ?_
  refine g_aload_n dX10_wide_13 rfl ?_
  refine mg_getA 12 11 dX10_wide_14 fX10_43 rfl rt_11 hS ?_
  refine g_aload_n dX10_wide_17 rfl ?_
  refine mg_getA 3 3 dX10_wide_18 fX10_19 rfl rt_3 hS ?_
  refine g_iload_n dX10_wide_21 rfl ?_
  refine mg_iald dX10_wide_22 rfl rfl rfl (by omega) hS ?_
  rw [hc]
  refine mg_dald dX10_wide_23 (by first | exact rfl | assumption) rfl rfl (by omega) hS ?_
  refine g_d2l dX10_wide_24 ?_
  refine g_lstore dX10_wide_25 (by decide) rfl ?_
  refine g_aload_n dX10_wide_27 rfl ?_
  refine mg_getA 1 1 dX10_wide_28 fX10_13 rfl rt_1 hS ?_
  refine g_iload_n dX10_wide_31 rfl ?_
  refine mg_iald dX10_wide_32 rfl rfl rfl (by omega) hS ?_
  rw [ha]
  refine g_istore dX10_wide_33 (by decide) rfl ?_
  refine g_iload dX10_wide_35 rfl ?_
  refine g_iconstV (v := 3) dX10_wide_37 (by decide) ?_
  refine g_icmp_eq 47 dX10_wide_38 (by decide) (fun q => absurd q (by decide)) (fun _ => ?_)
  refine g_iload dX10_wide_41 rfl ?_
  refine g_iconstV (v := 4) dX10_wide_43 (by decide) ?_
  refine g_icmp_ne 61 dX10_wide_44 (by decide) (fun _ => ?_) (fun q => absurd q (by decide))
  refine g_iload dX10_wide_61 rfl ?_
  refine g_tableIn (off := 50) 113 dX10_wide_63 (by rw [show (1 : Int32) = 1 from rfl]; decide) (by rw [show (1 : Int32) = 1 from rfl]; decide) (by rw [show (1 : Int32) = 1 from rfl]; rfl) (by decide) ?_
  refine g_lload_n dX10_wide_113 rfl ?_
  refine g_lload dX10_wide_114 rfl ?_
  refine g_lsub dX10_wide_116 ?_
  refine g_lstore dX10_wide_117 (by decide) rfl ?_
  refine g_goto 173 dX10_wide_119 (by decide) ?_
  refine g_aload_n dX10_wide_173 rfl ?_
  refine g_aload_n dX10_wide_174 rfl ?_
  refine mg_getA 2 2 dX10_wide_175 fX10_16 rfl rt_2 hS ?_
  refine g_iload_n dX10_wide_178 rfl ?_
  refine mg_iald dX10_wide_179 rfl rfl rfl (by omega) hS ?_
  rw [hb]
  refine g_lload dX10_wide_180 rfl ?_
  refine g_l2d dX10_wide_182 ?_
  refine g_callV (d1 := d - 1) (As := [_, _]) 9 dX10_wide_183 vX10_308 (by omega) (mg_ob hS) rfl rfl (Nat.le_of_ble_eq_true rfl) ?_
  refine m_turn (by omega) hS hb2 hn hn2 (fun q => ?_) (fun q => ?_)
  · refine g_vret dX10_wide_186 rfl ?_
    exact k1 q
  · refine g_vret dX10_wide_186 rfl ?_
    exact k2 q
set_option maxHeartbeats 4000000 in
set_option maxRecDepth 20000 in
theorem m_wide2 {g : GE} {d : Nat} {w : GW} {σ : MW} {Q : Option Value → GW → Prop} (hd : 3 ≤ d) (hS : SK g w) {p b c n : Nat} (hp : p < 160) (ha : mA σ 1 p = 2) (hb : mA σ 2 p = nI b) (hb2 : b < 8) (hc : mA σ 3 p = nI c) (hc2 : c < 8) (hn : mI σ 22 = nI n) (hn2 : n < 600) (k1 : fBeyond (FP.l2d (sWide 2 (FP.d2l (mD σ 11 b)) (FP.d2l (mD σ 11 c)))) → Q none (put g (mFail σ n 8) w)) (k2 : ¬ fBeyond (FP.l2d (sWide 2 (FP.d2l (mD σ 11 b)) (FP.d2l (mD σ 11 c)))) → Q none (put g (sD σ 11 b (FP.l2d (sWide 2 (FP.d2l (mD σ 11 b)) (FP.d2l (mD σ 11 c))))) w)) : gM g d mX10_wide [.ref (eB g + 70), .int (nI p)] (put g σ w) Q := by
  refine gM.of (by decide) (Nat.le_of_ble_eq_true rfl) ?_
  have ev : sWide 2 (FP.d2l (mD σ 11 b)) (FP.d2l (mD σ 11 c)) = (FP.d2l (mD σ 11 b)) * (FP.d2l (mD σ 11 c)) := by simp [sWide]
  rw [ev] at k1 k2
  refine g_aload_n dX10_wide_0 rfl ?_
  refine mg_getA 12 11 dX10_wide_1 fX10_43 rfl rt_11 hS ?_
  refine g_aload_n dX10_wide_4 rfl ?_
  refine mg_getA 2 2 dX10_wide_5 fX10_16 rfl rt_2 hS ?_
  refine g_iload_n dX10_wide_8 rfl ?_
  refine mg_iald dX10_wide_9 rfl rfl rfl (by omega) hS ?_
  rw [hb]
  refine mg_dald dX10_wide_10 (by first | exact rfl | assumption) rfl rfl (by omega) hS ?_
  refine g_d2l dX10_wide_11 ?_
  refine g_lstore_n dX10_wide_12 (by decide) rfl ?_
  refine g_aload_n dX10_wide_13 rfl ?_
  refine mg_getA 12 11 dX10_wide_14 fX10_43 rfl rt_11 hS ?_
  refine g_aload_n dX10_wide_17 rfl ?_
  refine mg_getA 3 3 dX10_wide_18 fX10_19 rfl rt_3 hS ?_
  refine g_iload_n dX10_wide_21 rfl ?_
  refine mg_iald dX10_wide_22 rfl rfl rfl (by omega) hS ?_
  rw [hc]
  refine mg_dald dX10_wide_23 (by first | exact rfl | assumption) rfl rfl (by omega) hS ?_
  refine g_d2l dX10_wide_24 ?_
  refine g_lstore dX10_wide_25 (by decide) rfl ?_
  refine g_aload_n dX10_wide_27 rfl ?_
  refine mg_getA 1 1 dX10_wide_28 fX10_13 rfl rt_1 hS ?_
  refine g_iload_n dX10_wide_31 rfl ?_
  refine mg_iald dX10_wide_32 rfl rfl rfl (by omega) hS ?_
  rw [ha]
  refine g_istore dX10_wide_33 (by decide) rfl ?_
  refine g_iload dX10_wide_35 rfl ?_
  refine g_iconstV (v := 3) dX10_wide_37 (by decide) ?_
  refine g_icmp_eq 47 dX10_wide_38 (by decide) (fun q => absurd q (by decide)) (fun _ => ?_)
  refine g_iload dX10_wide_41 rfl ?_
  refine g_iconstV (v := 4) dX10_wide_43 (by decide) ?_
  refine g_icmp_ne 61 dX10_wide_44 (by decide) (fun _ => ?_) (fun q => absurd q (by decide))
  refine g_iload dX10_wide_61 rfl ?_
  refine g_tableIn (off := 59) 122 dX10_wide_63 (by rw [show (2 : Int32) = 2 from rfl]; decide) (by rw [show (2 : Int32) = 2 from rfl]; decide) (by rw [show (2 : Int32) = 2 from rfl]; rfl) (by decide) ?_
  refine g_lload_n dX10_wide_122 rfl ?_
  refine g_lload dX10_wide_123 rfl ?_
  refine g_lmul dX10_wide_125 ?_
  refine g_lstore dX10_wide_126 (by decide) rfl ?_
  refine g_goto 173 dX10_wide_128 (by decide) ?_
  refine g_aload_n dX10_wide_173 rfl ?_
  refine g_aload_n dX10_wide_174 rfl ?_
  refine mg_getA 2 2 dX10_wide_175 fX10_16 rfl rt_2 hS ?_
  refine g_iload_n dX10_wide_178 rfl ?_
  refine mg_iald dX10_wide_179 rfl rfl rfl (by omega) hS ?_
  rw [hb]
  refine g_lload dX10_wide_180 rfl ?_
  refine g_l2d dX10_wide_182 ?_
  refine g_callV (d1 := d - 1) (As := [_, _]) 9 dX10_wide_183 vX10_308 (by omega) (mg_ob hS) rfl rfl (Nat.le_of_ble_eq_true rfl) ?_
  refine m_turn (by omega) hS hb2 hn hn2 (fun q => ?_) (fun q => ?_)
  · refine g_vret dX10_wide_186 rfl ?_
    exact k1 q
  · refine g_vret dX10_wide_186 rfl ?_
    exact k2 q
set_option maxHeartbeats 4000000 in
set_option maxRecDepth 20000 in
theorem m_wide3z {g : GE} {d : Nat} {w : GW} {σ : MW} {Q : Option Value → GW → Prop} (hd : 2 ≤ d) (hS : SK g w) {p b c n : Nat} (hp : p < 160) (ha : mA σ 1 p = 3) (hb : mA σ 2 p = nI b) (hb2 : b < 8) (hc : mA σ 3 p = nI c) (hc2 : c < 8) (hn : mI σ 22 = nI n) (hn2 : n < 600) (hz : (FP.d2l (mD σ 11 c)) = 0) (k : Q none (put g (mFail σ n 7) w)) : gM g d mX10_wide [.ref (eB g + 70), .int (nI p)] (put g σ w) Q := by
  refine gM.of (by decide) (Nat.le_of_ble_eq_true rfl) ?_
  refine g_aload_n dX10_wide_0 rfl ?_
  refine mg_getA 12 11 dX10_wide_1 fX10_43 rfl rt_11 hS ?_
  refine g_aload_n dX10_wide_4 rfl ?_
  refine mg_getA 2 2 dX10_wide_5 fX10_16 rfl rt_2 hS ?_
  refine g_iload_n dX10_wide_8 rfl ?_
  refine mg_iald dX10_wide_9 rfl rfl rfl (by omega) hS ?_
  rw [hb]
  refine mg_dald dX10_wide_10 (by first | exact rfl | assumption) rfl rfl (by omega) hS ?_
  refine g_d2l dX10_wide_11 ?_
  refine g_lstore_n dX10_wide_12 (by decide) rfl ?_
  refine g_aload_n dX10_wide_13 rfl ?_
  refine mg_getA 12 11 dX10_wide_14 fX10_43 rfl rt_11 hS ?_
  refine g_aload_n dX10_wide_17 rfl ?_
  refine mg_getA 3 3 dX10_wide_18 fX10_19 rfl rt_3 hS ?_
  refine g_iload_n dX10_wide_21 rfl ?_
  refine mg_iald dX10_wide_22 rfl rfl rfl (by omega) hS ?_
  rw [hc]
  refine mg_dald dX10_wide_23 (by first | exact rfl | assumption) rfl rfl (by omega) hS ?_
  refine g_d2l dX10_wide_24 ?_
  refine g_lstore dX10_wide_25 (by decide) rfl ?_
  refine g_aload_n dX10_wide_27 rfl ?_
  refine mg_getA 1 1 dX10_wide_28 fX10_13 rfl rt_1 hS ?_
  refine g_iload_n dX10_wide_31 rfl ?_
  refine mg_iald dX10_wide_32 rfl rfl rfl (by omega) hS ?_
  rw [ha]
  refine g_istore dX10_wide_33 (by decide) rfl ?_
  refine g_iload dX10_wide_35 rfl ?_
  refine g_iconstV (v := 3) dX10_wide_37 (by decide) ?_
  refine g_icmp_eq 47 dX10_wide_38 (by decide) (fun _ => ?_) (fun q => absurd (rfl) q)
  refine g_lload dX10_wide_47 rfl ?_
  refine g_lconstV (v := 0) dX10_wide_49 (by decide) ?_
  refine g_lcmp dX10_wide_50 ?_
  refine g_if_ne 61 dX10_wide_51 (by decide) (fun q => absurd ((lg0 _).mpr hz) q) (fun _ => ?_)
  refine g_aload_n dX10_wide_54 rfl ?_
  refine g_bipushV (v := 7) dX10_wide_55 (by decide) ?_
  refine g_callV (d1 := d - 1) (As := [_]) 9 dX10_wide_57 vX10_191 (by omega) (mg_ob hS) rfl rfl (Nat.le_of_ble_eq_true rfl) ?_
  refine m_fail (by omega) hS hn hn2 ?_
  refine g_vret dX10_wide_60 rfl ?_
  exact k
set_option maxHeartbeats 4000000 in
set_option maxRecDepth 20000 in
theorem m_wide3 {g : GE} {d : Nat} {w : GW} {σ : MW} {Q : Option Value → GW → Prop} (hd : 3 ≤ d) (hS : SK g w) {p b c n : Nat} (hp : p < 160) (ha : mA σ 1 p = 3) (hb : mA σ 2 p = nI b) (hb2 : b < 8) (hc : mA σ 3 p = nI c) (hc2 : c < 8) (hn : mI σ 22 = nI n) (hn2 : n < 600) (hz : ¬ (FP.d2l (mD σ 11 c)) = 0) (k1 : fBeyond (FP.l2d (sWide 3 (FP.d2l (mD σ 11 b)) (FP.d2l (mD σ 11 c)))) → Q none (put g (mFail σ n 8) w)) (k2 : ¬ fBeyond (FP.l2d (sWide 3 (FP.d2l (mD σ 11 b)) (FP.d2l (mD σ 11 c)))) → Q none (put g (sD σ 11 b (FP.l2d (sWide 3 (FP.d2l (mD σ 11 b)) (FP.d2l (mD σ 11 c))))) w)) : gM g d mX10_wide [.ref (eB g + 70), .int (nI p)] (put g σ w) Q := by
  refine gM.of (by decide) (Nat.le_of_ble_eq_true rfl) ?_
  have ev : sWide 3 (FP.d2l (mD σ 11 b)) (FP.d2l (mD σ 11 c)) = (FP.d2l (mD σ 11 b)) / (FP.d2l (mD σ 11 c)) := by simp [sWide, hz]
  rw [ev] at k1 k2
  refine g_aload_n dX10_wide_0 rfl ?_
  refine mg_getA 12 11 dX10_wide_1 fX10_43 rfl rt_11 hS ?_
  refine g_aload_n dX10_wide_4 rfl ?_
  refine mg_getA 2 2 dX10_wide_5 fX10_16 rfl rt_2 hS ?_
  refine g_iload_n dX10_wide_8 rfl ?_
  refine mg_iald dX10_wide_9 rfl rfl rfl (by omega) hS ?_
  rw [hb]
  refine mg_dald dX10_wide_10 (by first | exact rfl | assumption) rfl rfl (by omega) hS ?_
  refine g_d2l dX10_wide_11 ?_
  refine g_lstore_n dX10_wide_12 (by decide) rfl ?_
  refine g_aload_n dX10_wide_13 rfl ?_
  refine mg_getA 12 11 dX10_wide_14 fX10_43 rfl rt_11 hS ?_
  refine g_aload_n dX10_wide_17 rfl ?_
  refine mg_getA 3 3 dX10_wide_18 fX10_19 rfl rt_3 hS ?_
  refine g_iload_n dX10_wide_21 rfl ?_
  refine mg_iald dX10_wide_22 rfl rfl rfl (by omega) hS ?_
  rw [hc]
  refine mg_dald dX10_wide_23 (by first | exact rfl | assumption) rfl rfl (by omega) hS ?_
  refine g_d2l dX10_wide_24 ?_
  refine g_lstore dX10_wide_25 (by decide) rfl ?_
  refine g_aload_n dX10_wide_27 rfl ?_
  refine mg_getA 1 1 dX10_wide_28 fX10_13 rfl rt_1 hS ?_
  refine g_iload_n dX10_wide_31 rfl ?_
  refine mg_iald dX10_wide_32 rfl rfl rfl (by omega) hS ?_
  rw [ha]
  refine g_istore dX10_wide_33 (by decide) rfl ?_
  refine g_iload dX10_wide_35 rfl ?_
  refine g_iconstV (v := 3) dX10_wide_37 (by decide) ?_
  refine g_icmp_eq 47 dX10_wide_38 (by decide) (fun _ => ?_) (fun q => absurd (rfl) q)
  refine g_lload dX10_wide_47 rfl ?_
  refine g_lconstV (v := 0) dX10_wide_49 (by decide) ?_
  refine g_lcmp dX10_wide_50 ?_
  refine g_if_ne 61 dX10_wide_51 (by decide) (fun _ => ?_) (fun q => absurd q (fun q => hz ((lg0 _).mp q)))
  refine g_iload dX10_wide_61 rfl ?_
  refine g_tableIn (off := 68) 131 dX10_wide_63 (by rw [show (3 : Int32) = 3 from rfl]; decide) (by rw [show (3 : Int32) = 3 from rfl]; decide) (by rw [show (3 : Int32) = 3 from rfl]; rfl) (by decide) ?_
  refine g_lload_n dX10_wide_131 rfl ?_
  refine g_lload dX10_wide_132 rfl ?_
  refine g_ldiv dX10_wide_134 hz ?_
  refine g_lstore dX10_wide_135 (by decide) rfl ?_
  refine g_goto 173 dX10_wide_137 (by decide) ?_
  refine g_aload_n dX10_wide_173 rfl ?_
  refine g_aload_n dX10_wide_174 rfl ?_
  refine mg_getA 2 2 dX10_wide_175 fX10_16 rfl rt_2 hS ?_
  refine g_iload_n dX10_wide_178 rfl ?_
  refine mg_iald dX10_wide_179 rfl rfl rfl (by omega) hS ?_
  rw [hb]
  refine g_lload dX10_wide_180 rfl ?_
  refine g_l2d dX10_wide_182 ?_
  refine g_callV (d1 := d - 1) (As := [_, _]) 9 dX10_wide_183 vX10_308 (by omega) (mg_ob hS) rfl rfl (Nat.le_of_ble_eq_true rfl) ?_
  refine m_turn (by omega) hS hb2 hn hn2 (fun q => ?_) (fun q => ?_)
  · refine g_vret dX10_wide_186 rfl ?_
    exact k1 q
  · refine g_vret dX10_wide_186 rfl ?_
    exact k2 q
set_option maxHeartbeats 4000000 in
set_option maxRecDepth 20000 in
theorem m_wide4z {g : GE} {d : Nat} {w : GW} {σ : MW} {Q : Option Value → GW → Prop} (hd : 2 ≤ d) (hS : SK g w) {p b c n : Nat} (hp : p < 160) (ha : mA σ 1 p = 4) (hb : mA σ 2 p = nI b) (hb2 : b < 8) (hc : mA σ 3 p = nI c) (hc2 : c < 8) (hn : mI σ 22 = nI n) (hn2 : n < 600) (hz : (FP.d2l (mD σ 11 c)) = 0) (k : Q none (put g (mFail σ n 7) w)) : gM g d mX10_wide [.ref (eB g + 70), .int (nI p)] (put g σ w) Q := by
  refine gM.of (by decide) (Nat.le_of_ble_eq_true rfl) ?_
  refine g_aload_n dX10_wide_0 rfl ?_
  refine mg_getA 12 11 dX10_wide_1 fX10_43 rfl rt_11 hS ?_
  refine g_aload_n dX10_wide_4 rfl ?_
  refine mg_getA 2 2 dX10_wide_5 fX10_16 rfl rt_2 hS ?_
  refine g_iload_n dX10_wide_8 rfl ?_
  refine mg_iald dX10_wide_9 rfl rfl rfl (by omega) hS ?_
  rw [hb]
  refine mg_dald dX10_wide_10 (by first | exact rfl | assumption) rfl rfl (by omega) hS ?_
  refine g_d2l dX10_wide_11 ?_
  refine g_lstore_n dX10_wide_12 (by decide) rfl ?_
  refine g_aload_n dX10_wide_13 rfl ?_
  refine mg_getA 12 11 dX10_wide_14 fX10_43 rfl rt_11 hS ?_
  refine g_aload_n dX10_wide_17 rfl ?_
  refine mg_getA 3 3 dX10_wide_18 fX10_19 rfl rt_3 hS ?_
  refine g_iload_n dX10_wide_21 rfl ?_
  refine mg_iald dX10_wide_22 rfl rfl rfl (by omega) hS ?_
  rw [hc]
  refine mg_dald dX10_wide_23 (by first | exact rfl | assumption) rfl rfl (by omega) hS ?_
  refine g_d2l dX10_wide_24 ?_
  refine g_lstore dX10_wide_25 (by decide) rfl ?_
  refine g_aload_n dX10_wide_27 rfl ?_
  refine mg_getA 1 1 dX10_wide_28 fX10_13 rfl rt_1 hS ?_
  refine g_iload_n dX10_wide_31 rfl ?_
  refine mg_iald dX10_wide_32 rfl rfl rfl (by omega) hS ?_
  rw [ha]
  refine g_istore dX10_wide_33 (by decide) rfl ?_
  refine g_iload dX10_wide_35 rfl ?_
  refine g_iconstV (v := 3) dX10_wide_37 (by decide) ?_
  refine g_icmp_eq 47 dX10_wide_38 (by decide) (fun q => absurd q (by decide)) (fun _ => ?_)
  refine g_iload dX10_wide_41 rfl ?_
  refine g_iconstV (v := 4) dX10_wide_43 (by decide) ?_
  refine g_icmp_ne 61 dX10_wide_44 (by decide) (fun q => absurd (rfl) q) (fun _ => ?_)
  refine g_lload dX10_wide_47 rfl ?_
  refine g_lconstV (v := 0) dX10_wide_49 (by decide) ?_
  refine g_lcmp dX10_wide_50 ?_
  refine g_if_ne 61 dX10_wide_51 (by decide) (fun q => absurd ((lg0 _).mpr hz) q) (fun _ => ?_)
  refine g_aload_n dX10_wide_54 rfl ?_
  refine g_bipushV (v := 7) dX10_wide_55 (by decide) ?_
  refine g_callV (d1 := d - 1) (As := [_]) 9 dX10_wide_57 vX10_191 (by omega) (mg_ob hS) rfl rfl (Nat.le_of_ble_eq_true rfl) ?_
  refine m_fail (by omega) hS hn hn2 ?_
  refine g_vret dX10_wide_60 rfl ?_
  exact k
set_option maxHeartbeats 4000000 in
set_option maxRecDepth 20000 in
theorem m_wide4 {g : GE} {d : Nat} {w : GW} {σ : MW} {Q : Option Value → GW → Prop} (hd : 3 ≤ d) (hS : SK g w) {p b c n : Nat} (hp : p < 160) (ha : mA σ 1 p = 4) (hb : mA σ 2 p = nI b) (hb2 : b < 8) (hc : mA σ 3 p = nI c) (hc2 : c < 8) (hn : mI σ 22 = nI n) (hn2 : n < 600) (hz : ¬ (FP.d2l (mD σ 11 c)) = 0) (k1 : fBeyond (FP.l2d (sWide 4 (FP.d2l (mD σ 11 b)) (FP.d2l (mD σ 11 c)))) → Q none (put g (mFail σ n 8) w)) (k2 : ¬ fBeyond (FP.l2d (sWide 4 (FP.d2l (mD σ 11 b)) (FP.d2l (mD σ 11 c)))) → Q none (put g (sD σ 11 b (FP.l2d (sWide 4 (FP.d2l (mD σ 11 b)) (FP.d2l (mD σ 11 c))))) w)) : gM g d mX10_wide [.ref (eB g + 70), .int (nI p)] (put g σ w) Q := by
  refine gM.of (by decide) (Nat.le_of_ble_eq_true rfl) ?_
  have ev : sWide 4 (FP.d2l (mD σ 11 b)) (FP.d2l (mD σ 11 c)) = (FP.d2l (mD σ 11 b)) - (FP.d2l (mD σ 11 b)) / (FP.d2l (mD σ 11 c)) * (FP.d2l (mD σ 11 c)) := by simp [sWide, hz]
  rw [ev] at k1 k2
  refine g_aload_n dX10_wide_0 rfl ?_
  refine mg_getA 12 11 dX10_wide_1 fX10_43 rfl rt_11 hS ?_
  refine g_aload_n dX10_wide_4 rfl ?_
  refine mg_getA 2 2 dX10_wide_5 fX10_16 rfl rt_2 hS ?_
  refine g_iload_n dX10_wide_8 rfl ?_
  refine mg_iald dX10_wide_9 rfl rfl rfl (by omega) hS ?_
  rw [hb]
  refine mg_dald dX10_wide_10 (by first | exact rfl | assumption) rfl rfl (by omega) hS ?_
  refine g_d2l dX10_wide_11 ?_
  refine g_lstore_n dX10_wide_12 (by decide) rfl ?_
  refine g_aload_n dX10_wide_13 rfl ?_
  refine mg_getA 12 11 dX10_wide_14 fX10_43 rfl rt_11 hS ?_
  refine g_aload_n dX10_wide_17 rfl ?_
  refine mg_getA 3 3 dX10_wide_18 fX10_19 rfl rt_3 hS ?_
  refine g_iload_n dX10_wide_21 rfl ?_
  refine mg_iald dX10_wide_22 rfl rfl rfl (by omega) hS ?_
  rw [hc]
  refine mg_dald dX10_wide_23 (by first | exact rfl | assumption) rfl rfl (by omega) hS ?_
  refine g_d2l dX10_wide_24 ?_
  refine g_lstore dX10_wide_25 (by decide) rfl ?_
  refine g_aload_n dX10_wide_27 rfl ?_
  refine mg_getA 1 1 dX10_wide_28 fX10_13 rfl rt_1 hS ?_
  refine g_iload_n dX10_wide_31 rfl ?_
  refine mg_iald dX10_wide_32 rfl rfl rfl (by omega) hS ?_
  rw [ha]
  refine g_istore dX10_wide_33 (by decide) rfl ?_
  refine g_iload dX10_wide_35 rfl ?_
  refine g_iconstV (v := 3) dX10_wide_37 (by decide) ?_
  refine g_icmp_eq 47 dX10_wide_38 (by decide) (fun q => absurd q (by decide)) (fun _ => ?_)
  refine g_iload dX10_wide_41 rfl ?_
  refine g_iconstV (v := 4) dX10_wide_43 (by decide) ?_
  refine g_icmp_ne 61 dX10_wide_44 (by decide) (fun q => absurd (rfl) q) (fun _ => ?_)
  refine g_lload dX10_wide_47 rfl ?_
  refine g_lconstV (v := 0) dX10_wide_49 (by decide) ?_
  refine g_lcmp dX10_wide_50 ?_
  refine g_if_ne 61 dX10_wide_51 (by decide) (fun _ => ?_) (fun q => absurd q (fun q => hz ((lg0 _).mp q)))
  refine g_iload dX10_wide_61 rfl ?_
  refine g_tableIn (off := 77) 140 dX10_wide_63 (by rw [show (4 : Int32) = 4 from rfl]; decide) (by rw [show (4 : Int32) = 4 from rfl]; decide) (by rw [show (4 : Int32) = 4 from rfl]; rfl) (by decide) ?_
  refine g_lload_n dX10_wide_140 rfl ?_
  refine g_lload dX10_wide_141 rfl ?_
  refine g_lrem dX10_wide_143 hz ?_
  refine g_lstore dX10_wide_144 (by decide) rfl ?_
  refine g_goto 173 dX10_wide_146 (by decide) ?_
  refine g_aload_n dX10_wide_173 rfl ?_
  refine g_aload_n dX10_wide_174 rfl ?_
  refine mg_getA 2 2 dX10_wide_175 fX10_16 rfl rt_2 hS ?_
  refine g_iload_n dX10_wide_178 rfl ?_
  refine mg_iald dX10_wide_179 rfl rfl rfl (by omega) hS ?_
  rw [hb]
  refine g_lload dX10_wide_180 rfl ?_
  refine g_l2d dX10_wide_182 ?_
  refine g_callV (d1 := d - 1) (As := [_, _]) 9 dX10_wide_183 vX10_308 (by omega) (mg_ob hS) rfl rfl (Nat.le_of_ble_eq_true rfl) ?_
  refine m_turn (by omega) hS hb2 hn hn2 (fun q => ?_) (fun q => ?_)
  · refine g_vret dX10_wide_186 rfl ?_
    exact k1 q
  · refine g_vret dX10_wide_186 rfl ?_
    exact k2 q
set_option maxHeartbeats 4000000 in
set_option maxRecDepth 20000 in
theorem m_wide5 {g : GE} {d : Nat} {w : GW} {σ : MW} {Q : Option Value → GW → Prop} (hd : 3 ≤ d) (hS : SK g w) {p b c n : Nat} (hp : p < 160) (ha : mA σ 1 p = 5) (hb : mA σ 2 p = nI b) (hb2 : b < 8) (hc : mA σ 3 p = nI c) (hc2 : c < 8) (hn : mI σ 22 = nI n) (hn2 : n < 600) (k1 : fBeyond (FP.l2d (sWide 5 (FP.d2l (mD σ 11 b)) (FP.d2l (mD σ 11 c)))) → Q none (put g (mFail σ n 8) w)) (k2 : ¬ fBeyond (FP.l2d (sWide 5 (FP.d2l (mD σ 11 b)) (FP.d2l (mD σ 11 c)))) → Q none (put g (sD σ 11 b (FP.l2d (sWide 5 (FP.d2l (mD σ 11 b)) (FP.d2l (mD σ 11 c))))) w)) : gM g d mX10_wide [.ref (eB g + 70), .int (nI p)] (put g σ w) Q := by
  refine gM.of (by decide) (Nat.le_of_ble_eq_true rfl) ?_
  have ev : sWide 5 (FP.d2l (mD σ 11 b)) (FP.d2l (mD σ 11 c)) = (FP.d2l (mD σ 11 b)) &&& (FP.d2l (mD σ 11 c)) := by simp [sWide]
  rw [ev] at k1 k2
  refine g_aload_n dX10_wide_0 rfl ?_
  refine mg_getA 12 11 dX10_wide_1 fX10_43 rfl rt_11 hS ?_
  refine g_aload_n dX10_wide_4 rfl ?_
  refine mg_getA 2 2 dX10_wide_5 fX10_16 rfl rt_2 hS ?_
  refine g_iload_n dX10_wide_8 rfl ?_
  refine mg_iald dX10_wide_9 rfl rfl rfl (by omega) hS ?_
  rw [hb]
  refine mg_dald dX10_wide_10 (by first | exact rfl | assumption) rfl rfl (by omega) hS ?_
  refine g_d2l dX10_wide_11 ?_
  refine g_lstore_n dX10_wide_12 (by decide) rfl ?_
  refine g_aload_n dX10_wide_13 rfl ?_
  refine mg_getA 12 11 dX10_wide_14 fX10_43 rfl rt_11 hS ?_
  refine g_aload_n dX10_wide_17 rfl ?_
  refine mg_getA 3 3 dX10_wide_18 fX10_19 rfl rt_3 hS ?_
  refine g_iload_n dX10_wide_21 rfl ?_
  refine mg_iald dX10_wide_22 rfl rfl rfl (by omega) hS ?_
  rw [hc]
  refine mg_dald dX10_wide_23 (by first | exact rfl | assumption) rfl rfl (by omega) hS ?_
  refine g_d2l dX10_wide_24 ?_
  refine g_lstore dX10_wide_25 (by decide) rfl ?_
  refine g_aload_n dX10_wide_27 rfl ?_
  refine mg_getA 1 1 dX10_wide_28 fX10_13 rfl rt_1 hS ?_
  refine g_iload_n dX10_wide_31 rfl ?_
  refine mg_iald dX10_wide_32 rfl rfl rfl (by omega) hS ?_
  rw [ha]
  refine g_istore dX10_wide_33 (by decide) rfl ?_
  refine g_iload dX10_wide_35 rfl ?_
  refine g_iconstV (v := 3) dX10_wide_37 (by decide) ?_
  refine g_icmp_eq 47 dX10_wide_38 (by decide) (fun q => absurd q (by decide)) (fun _ => ?_)
  refine g_iload dX10_wide_41 rfl ?_
  refine g_iconstV (v := 4) dX10_wide_43 (by decide) ?_
  refine g_icmp_ne 61 dX10_wide_44 (by decide) (fun _ => ?_) (fun q => absurd q (by decide))
  refine g_iload dX10_wide_61 rfl ?_
  refine g_tableIn (off := 86) 149 dX10_wide_63 (by rw [show (5 : Int32) = 5 from rfl]; decide) (by rw [show (5 : Int32) = 5 from rfl]; decide) (by rw [show (5 : Int32) = 5 from rfl]; rfl) (by decide) ?_
  refine g_lload_n dX10_wide_149 rfl ?_
  refine g_lload dX10_wide_150 rfl ?_
  refine g_land dX10_wide_152 ?_
  refine g_lstore dX10_wide_153 (by decide) rfl ?_
  refine g_goto 173 dX10_wide_155 (by decide) ?_
  refine g_aload_n dX10_wide_173 rfl ?_
  refine g_aload_n dX10_wide_174 rfl ?_
  refine mg_getA 2 2 dX10_wide_175 fX10_16 rfl rt_2 hS ?_
  refine g_iload_n dX10_wide_178 rfl ?_
  refine mg_iald dX10_wide_179 rfl rfl rfl (by omega) hS ?_
  rw [hb]
  refine g_lload dX10_wide_180 rfl ?_
  refine g_l2d dX10_wide_182 ?_
  refine g_callV (d1 := d - 1) (As := [_, _]) 9 dX10_wide_183 vX10_308 (by omega) (mg_ob hS) rfl rfl (Nat.le_of_ble_eq_true rfl) ?_
  refine m_turn (by omega) hS hb2 hn hn2 (fun q => ?_) (fun q => ?_)
  · refine g_vret dX10_wide_186 rfl ?_
    exact k1 q
  · refine g_vret dX10_wide_186 rfl ?_
    exact k2 q
set_option maxHeartbeats 4000000 in
set_option maxRecDepth 20000 in
theorem m_wide6 {g : GE} {d : Nat} {w : GW} {σ : MW} {Q : Option Value → GW → Prop} (hd : 3 ≤ d) (hS : SK g w) {p b c n : Nat} (hp : p < 160) (ha : mA σ 1 p = 6) (hb : mA σ 2 p = nI b) (hb2 : b < 8) (hc : mA σ 3 p = nI c) (hc2 : c < 8) (hn : mI σ 22 = nI n) (hn2 : n < 600) (k1 : fBeyond (FP.l2d (sWide 6 (FP.d2l (mD σ 11 b)) (FP.d2l (mD σ 11 c)))) → Q none (put g (mFail σ n 8) w)) (k2 : ¬ fBeyond (FP.l2d (sWide 6 (FP.d2l (mD σ 11 b)) (FP.d2l (mD σ 11 c)))) → Q none (put g (sD σ 11 b (FP.l2d (sWide 6 (FP.d2l (mD σ 11 b)) (FP.d2l (mD σ 11 c))))) w)) : gM g d mX10_wide [.ref (eB g + 70), .int (nI p)] (put g σ w) Q := by
  refine gM.of (by decide) (Nat.le_of_ble_eq_true rfl) ?_
  have ev : sWide 6 (FP.d2l (mD σ 11 b)) (FP.d2l (mD σ 11 c)) = (FP.d2l (mD σ 11 b)) ||| (FP.d2l (mD σ 11 c)) := by simp [sWide]
  rw [ev] at k1 k2
  refine g_aload_n dX10_wide_0 rfl ?_
  refine mg_getA 12 11 dX10_wide_1 fX10_43 rfl rt_11 hS ?_
  refine g_aload_n dX10_wide_4 rfl ?_
  refine mg_getA 2 2 dX10_wide_5 fX10_16 rfl rt_2 hS ?_
  refine g_iload_n dX10_wide_8 rfl ?_
  refine mg_iald dX10_wide_9 rfl rfl rfl (by omega) hS ?_
  rw [hb]
  refine mg_dald dX10_wide_10 (by first | exact rfl | assumption) rfl rfl (by omega) hS ?_
  refine g_d2l dX10_wide_11 ?_
  refine g_lstore_n dX10_wide_12 (by decide) rfl ?_
  refine g_aload_n dX10_wide_13 rfl ?_
  refine mg_getA 12 11 dX10_wide_14 fX10_43 rfl rt_11 hS ?_
  refine g_aload_n dX10_wide_17 rfl ?_
  refine mg_getA 3 3 dX10_wide_18 fX10_19 rfl rt_3 hS ?_
  refine g_iload_n dX10_wide_21 rfl ?_
  refine mg_iald dX10_wide_22 rfl rfl rfl (by omega) hS ?_
  rw [hc]
  refine mg_dald dX10_wide_23 (by first | exact rfl | assumption) rfl rfl (by omega) hS ?_
  refine g_d2l dX10_wide_24 ?_
  refine g_lstore dX10_wide_25 (by decide) rfl ?_
  refine g_aload_n dX10_wide_27 rfl ?_
  refine mg_getA 1 1 dX10_wide_28 fX10_13 rfl rt_1 hS ?_
  refine g_iload_n dX10_wide_31 rfl ?_
  refine mg_iald dX10_wide_32 rfl rfl rfl (by omega) hS ?_
  rw [ha]
  refine g_istore dX10_wide_33 (by decide) rfl ?_
  refine g_iload dX10_wide_35 rfl ?_
  refine g_iconstV (v := 3) dX10_wide_37 (by decide) ?_
  refine g_icmp_eq 47 dX10_wide_38 (by decide) (fun q => absurd q (by decide)) (fun _ => ?_)
  refine g_iload dX10_wide_41 rfl ?_
  refine g_iconstV (v := 4) dX10_wide_43 (by decide) ?_
  refine g_icmp_ne 61 dX10_wide_44 (by decide) (fun _ => ?_) (fun q => absurd q (by decide))
  refine g_iload dX10_wide_61 rfl ?_
  refine g_tableIn (off := 95) 158 dX10_wide_63 (by rw [show (6 : Int32) = 6 from rfl]; decide) (by rw [show (6 : Int32) = 6 from rfl]; decide) (by rw [show (6 : Int32) = 6 from rfl]; rfl) (by decide) ?_
  refine g_lload_n dX10_wide_158 rfl ?_
  refine g_lload dX10_wide_159 rfl ?_
  refine g_lor dX10_wide_161 ?_
  refine g_lstore dX10_wide_162 (by decide) rfl ?_
  refine g_goto 173 dX10_wide_164 (by decide) ?_
  refine g_aload_n dX10_wide_173 rfl ?_
  refine g_aload_n dX10_wide_174 rfl ?_
  refine mg_getA 2 2 dX10_wide_175 fX10_16 rfl rt_2 hS ?_
  refine g_iload_n dX10_wide_178 rfl ?_
  refine mg_iald dX10_wide_179 rfl rfl rfl (by omega) hS ?_
  rw [hb]
  refine g_lload dX10_wide_180 rfl ?_
  refine g_l2d dX10_wide_182 ?_
  refine g_callV (d1 := d - 1) (As := [_, _]) 9 dX10_wide_183 vX10_308 (by omega) (mg_ob hS) rfl rfl (Nat.le_of_ble_eq_true rfl) ?_
  refine m_turn (by omega) hS hb2 hn hn2 (fun q => ?_) (fun q => ?_)
  · refine g_vret dX10_wide_186 rfl ?_
    exact k1 q
  · refine g_vret dX10_wide_186 rfl ?_
    exact k2 q
set_option maxHeartbeats 4000000 in
set_option maxRecDepth 20000 in
theorem m_wide7 {g : GE} {d : Nat} {w : GW} {σ : MW} {Q : Option Value → GW → Prop} (hd : 3 ≤ d) (hS : SK g w) {p b c n : Nat} (hp : p < 160) (ha : mA σ 1 p = 7) (hb : mA σ 2 p = nI b) (hb2 : b < 8) (hc : mA σ 3 p = nI c) (hc2 : c < 8) (hn : mI σ 22 = nI n) (hn2 : n < 600) (k1 : fBeyond (FP.l2d (sWide 7 (FP.d2l (mD σ 11 b)) (FP.d2l (mD σ 11 c)))) → Q none (put g (mFail σ n 8) w)) (k2 : ¬ fBeyond (FP.l2d (sWide 7 (FP.d2l (mD σ 11 b)) (FP.d2l (mD σ 11 c)))) → Q none (put g (sD σ 11 b (FP.l2d (sWide 7 (FP.d2l (mD σ 11 b)) (FP.d2l (mD σ 11 c))))) w)) : gM g d mX10_wide [.ref (eB g + 70), .int (nI p)] (put g σ w) Q := by
  refine gM.of (by decide) (Nat.le_of_ble_eq_true rfl) ?_
  have ev : sWide 7 (FP.d2l (mD σ 11 b)) (FP.d2l (mD σ 11 c)) = (FP.d2l (mD σ 11 b)) ^^^ (FP.d2l (mD σ 11 c)) := by simp [sWide]
  rw [ev] at k1 k2
  refine g_aload_n dX10_wide_0 rfl ?_
  refine mg_getA 12 11 dX10_wide_1 fX10_43 rfl rt_11 hS ?_
  refine g_aload_n dX10_wide_4 rfl ?_
  refine mg_getA 2 2 dX10_wide_5 fX10_16 rfl rt_2 hS ?_
  refine g_iload_n dX10_wide_8 rfl ?_
  refine mg_iald dX10_wide_9 rfl rfl rfl (by omega) hS ?_
  rw [hb]
  refine mg_dald dX10_wide_10 (by first | exact rfl | assumption) rfl rfl (by omega) hS ?_
  refine g_d2l dX10_wide_11 ?_
  refine g_lstore_n dX10_wide_12 (by decide) rfl ?_
  refine g_aload_n dX10_wide_13 rfl ?_
  refine mg_getA 12 11 dX10_wide_14 fX10_43 rfl rt_11 hS ?_
  refine g_aload_n dX10_wide_17 rfl ?_
  refine mg_getA 3 3 dX10_wide_18 fX10_19 rfl rt_3 hS ?_
  refine g_iload_n dX10_wide_21 rfl ?_
  refine mg_iald dX10_wide_22 rfl rfl rfl (by omega) hS ?_
  rw [hc]
  refine mg_dald dX10_wide_23 (by first | exact rfl | assumption) rfl rfl (by omega) hS ?_
  refine g_d2l dX10_wide_24 ?_
  refine g_lstore dX10_wide_25 (by decide) rfl ?_
  refine g_aload_n dX10_wide_27 rfl ?_
  refine mg_getA 1 1 dX10_wide_28 fX10_13 rfl rt_1 hS ?_
  refine g_iload_n dX10_wide_31 rfl ?_
  refine mg_iald dX10_wide_32 rfl rfl rfl (by omega) hS ?_
  rw [ha]
  refine g_istore dX10_wide_33 (by decide) rfl ?_
  refine g_iload dX10_wide_35 rfl ?_
  refine g_iconstV (v := 3) dX10_wide_37 (by decide) ?_
  refine g_icmp_eq 47 dX10_wide_38 (by decide) (fun q => absurd q (by decide)) (fun _ => ?_)
  refine g_iload dX10_wide_41 rfl ?_
  refine g_iconstV (v := 4) dX10_wide_43 (by decide) ?_
  refine g_icmp_ne 61 dX10_wide_44 (by decide) (fun _ => ?_) (fun q => absurd q (by decide))
  refine g_iload dX10_wide_61 rfl ?_
  refine g_tableOut 167 dX10_wide_63 (by rw [show (7 : Int32) = 7 from rfl]; decide) (by decide) ?_
  refine g_lload_n dX10_wide_167 rfl ?_
  refine g_lload dX10_wide_168 rfl ?_
  refine g_lxor dX10_wide_170 ?_
  refine g_lstore dX10_wide_171 (by decide) rfl ?_
  refine g_aload_n dX10_wide_173 rfl ?_
  refine g_aload_n dX10_wide_174 rfl ?_
  refine mg_getA 2 2 dX10_wide_175 fX10_16 rfl rt_2 hS ?_
  refine g_iload_n dX10_wide_178 rfl ?_
  refine mg_iald dX10_wide_179 rfl rfl rfl (by omega) hS ?_
  rw [hb]
  refine g_lload dX10_wide_180 rfl ?_
  refine g_l2d dX10_wide_182 ?_
  refine g_callV (d1 := d - 1) (As := [_, _]) 9 dX10_wide_183 vX10_308 (by omega) (mg_ob hS) rfl rfl (Nat.le_of_ble_eq_true rfl) ?_
  refine m_turn (by omega) hS hb2 hn hn2 (fun q => ?_) (fun q => ?_)
  · refine g_vret dX10_wide_186 rfl ?_
    exact k1 q
  · refine g_vret dX10_wide_186 rfl ?_
    exact k2 q
set_option maxHeartbeats 4000000 in
set_option maxRecDepth 20000 in
theorem m_kept {g : GE} {d : Nat} {w : GW} {Q : Option Value → GW → Prop} {kd : Nat} {x : UInt64} (hkd : kd < 9) (hf1 : vf_n32 (FP.d2f x)) (hf2 : vf_n64 (FP.f2d (FP.d2f x))) (k : Q (some (.double (fHeld kd x))) w) : gM g d mX10_kept [.int (nI kd), .double x] w Q := by
  refine gM.of (by decide) (Nat.le_of_ble_eq_true rfl) ?_
  refine g_iload_n dX10_kept_0 rfl ?_
  refine g_tsw dX10_kept_1 [44, 56, 61, 66, 71, 75, 79] 83 (by decide) (by decide) (by decide) (by decide) (by decide) ?_ (fun c1 => ?_)
  · simp only [tswK]
    refine ⟨fun c1 => ?_, fun c1 => ?_, fun c1 => ?_, fun c1 => ?_, fun c1 => ?_, fun c1 => ?_, fun c1 => ?_, trivial⟩
    · replace c1 := c1.trans (by decide : _ = (0 : Int32))
      refine g_dload_n dX10_kept_44 rfl ?_
      refine g_dconst0 dX10_kept_45 ?_
      refine g_dcmp dX10_kept_46 ?_
      refine g_if_eq 54 dX10_kept_47 (by decide) (fun c2 => ?_) (fun c2 => ?_)
      · refine g_dconst0 dX10_kept_54 ?_
        refine g_dret dX10_kept_55 rfl ?_
        have hk9 : kd < 2 ^ 31 := by omega
        have c1x := (nI_lit hk9 _ (by decide)).mp (c1.trans (by decide : _ = nI 0))
        rw [cv_eql] at c2
        simpa [fHeld, c1x, c2] using k
      · refine g_dconst1 dX10_kept_50 ?_
        refine g_goto 55 dX10_kept_51 (by decide) ?_
        refine g_dret dX10_kept_55 rfl ?_
        have hk9 : kd < 2 ^ 31 := by omega
        have c1x := (nI_lit hk9 _ (by decide)).mp (c1.trans (by decide : _ = nI 0))
        rw [cv_eql] at c2
        simpa [fHeld, c1x, c2] using k
    · replace c1 := c1.trans (by decide : _ = (1 : Int32))
      refine g_dload_n dX10_kept_56 rfl ?_
      refine g_d2i dX10_kept_57 ?_
      refine g_i2b dX10_kept_58 ?_
      refine g_i2d dX10_kept_59 ?_
      refine g_dret dX10_kept_60 rfl ?_
      have hk9 : kd < 2 ^ 31 := by omega
      have c1x := (nI_lit hk9 _ (by decide)).mp (c1.trans (by decide : _ = nI 1))
      simpa [fHeld, c1x] using k
    · replace c1 := c1.trans (by decide : _ = (2 : Int32))
      refine g_dload_n dX10_kept_61 rfl ?_
      refine g_d2i dX10_kept_62 ?_
      refine g_i2c dX10_kept_63 ?_
      refine g_i2d dX10_kept_64 ?_
      refine g_dret dX10_kept_65 rfl ?_
      have hk9 : kd < 2 ^ 31 := by omega
      have c1x := (nI_lit hk9 _ (by decide)).mp (c1.trans (by decide : _ = nI 2))
      simpa [fHeld, c1x] using k
    · replace c1 := c1.trans (by decide : _ = (3 : Int32))
      refine g_dload_n dX10_kept_66 rfl ?_
      refine g_d2i dX10_kept_67 ?_
      refine g_i2s dX10_kept_68 ?_
      refine g_i2d dX10_kept_69 ?_
      refine g_dret dX10_kept_70 rfl ?_
      have hk9 : kd < 2 ^ 31 := by omega
      have c1x := (nI_lit hk9 _ (by decide)).mp (c1.trans (by decide : _ = nI 3))
      simpa [fHeld, c1x] using k
    · replace c1 := c1.trans (by decide : _ = (4 : Int32))
      refine g_dload_n dX10_kept_71 rfl ?_
      refine g_d2i dX10_kept_72 ?_
      refine g_i2d dX10_kept_73 ?_
      refine g_dret dX10_kept_74 rfl ?_
      have hk9 : kd < 2 ^ 31 := by omega
      have c1x := (nI_lit hk9 _ (by decide)).mp (c1.trans (by decide : _ = nI 4))
      simpa [fHeld, c1x] using k
    · replace c1 := c1.trans (by decide : _ = (5 : Int32))
      refine g_dload_n dX10_kept_75 rfl ?_
      refine g_d2l dX10_kept_76 ?_
      refine g_l2d dX10_kept_77 ?_
      refine g_dret dX10_kept_78 rfl ?_
      have hk9 : kd < 2 ^ 31 := by omega
      have c1x := (nI_lit hk9 _ (by decide)).mp (c1.trans (by decide : _ = nI 5))
      simpa [fHeld, c1x] using k
    · replace c1 := c1.trans (by decide : _ = (6 : Int32))
      refine g_dload_n dX10_kept_79 rfl ?_
      refine g_d2f dX10_kept_80 hf1 ?_
      refine g_f2d dX10_kept_81 hf2 ?_
      refine g_dret dX10_kept_82 rfl ?_
      have hk9 : kd < 2 ^ 31 := by omega
      have c1x := (nI_lit hk9 _ (by decide)).mp (c1.trans (by decide : _ = nI 6))
      simpa [fHeld, c1x] using k
  · have c1n0 := tsw_ne c1 0 (by decide)
    have c1n1 := tsw_ne c1 1 (by decide)
    have c1n2 := tsw_ne c1 2 (by decide)
    have c1n3 := tsw_ne c1 3 (by decide)
    have c1n4 := tsw_ne c1 4 (by decide)
    have c1n5 := tsw_ne c1 5 (by decide)
    have c1n6 := tsw_ne c1 6 (by decide)
    refine g_dload_n dX10_kept_83 rfl ?_
    refine g_dret dX10_kept_84 rfl ?_
    have hk9 : kd < 2 ^ 31 := by omega
    have c1n0x : ¬ kd = 0 := fun z => c1n0 (by rw [z]; rfl)
    have c1n1x : ¬ kd = 1 := fun z => c1n1 (by rw [z]; rfl)
    have c1n2x : ¬ kd = 2 := fun z => c1n2 (by rw [z]; rfl)
    have c1n3x : ¬ kd = 3 := fun z => c1n3 (by rw [z]; rfl)
    have c1n4x : ¬ kd = 4 := fun z => c1n4 (by rw [z]; rfl)
    have c1n5x : ¬ kd = 5 := fun z => c1n5 (by rw [z]; rfl)
    have c1n6x : ¬ kd = 6 := fun z => c1n6 (by rw [z]; rfl)
    simpa [fHeld, c1n0x, c1n1x, c1n2x, c1n3x, c1n4x, c1n5x, c1n6x] using k
/-- faultOf(w, i, probe): what hinders the use of place i of row w -/
def mFaultOf (σ : MW) (r : Nat) (i pr : Int32) : Int32 := if mA σ 12 r = 0 then 3 else if fIn i 0 (mA σ 13 r - 1) = 0 then 4 else if pr = 0 then 0 else if r < 16 then 0 else if mA σ 15 (16 * r + i.toNatClampNeg) = 0 then 3 else 0
set_option maxHeartbeats 4000000 in
set_option maxRecDepth 20000 in
theorem m_faultOf {g : GE} {d : Nat} {w : GW} {σ : MW} {Q : Option Value → GW → Prop} (hd : 1 ≤ d) (hS : SK g w) {r L : Nat} {i pr : Int32} (hr : r < 18) (hL : ¬ mA σ 12 r = 0 → mA σ 13 r = nI L) (hL2 : L ≤ 16) (k : Q (some (.int (mFaultOf σ r i pr))) (put g σ w)) : gM g d mX10_faultOf [.ref (eB g + 70), .int (nI r), .int i, .int pr] (put g σ w) Q := by
  refine gM.of (by decide) (Nat.le_of_ble_eq_true rfl) ?_
  refine g_aload_n dX10_faultOf_0 rfl ?_
  refine mg_getA 13 12 dX10_faultOf_1 fX10_47 rfl rt_12 hS ?_
  refine g_iload_n dX10_faultOf_4 rfl ?_
  refine mg_zald dX10_faultOf_5 (by first | exact rfl | assumption) rfl rfl (by omega) hS ?_
  refine g_if_ne 11 dX10_faultOf_6 (by decide) (fun c1 => ?_) (fun c1 => ?_)
  · refine g_iload_n dX10_faultOf_11 rfl ?_
    refine g_iconstV (v := 0) dX10_faultOf_12 (by decide) ?_
    refine g_aload_n dX10_faultOf_13 rfl ?_
    refine mg_getA 14 13 dX10_faultOf_14 fX10_51 rfl rt_13 hS ?_
    refine g_iload_n dX10_faultOf_17 rfl ?_
    refine mg_iald dX10_faultOf_18 (by first | exact rfl | assumption) rfl rfl (by omega) hS ?_
    refine g_iconstV (v := 1) dX10_faultOf_19 (by decide) ?_
    refine g_isub dX10_faultOf_20 ?_
    refine g_callS (d1 := d - 1) (As := [_, _, _]) dX10_faultOf_21 sX10_100 (by omega) rfl rfl (Nat.le_of_ble_eq_true rfl) ?_
    refine m_isIn ?_
    refine g_if_ne 29 dX10_faultOf_24 (by decide) (fun c2 => ?_) (fun c2 => ?_)
    · refine g_iload_n dX10_faultOf_29 rfl ?_
      refine g_if_eq 57 dX10_faultOf_30 (by decide) (fun c3 => ?_) (fun c3 => ?_)
      · refine g_iconstV (v := 0) dX10_faultOf_57 (by decide) ?_
        refine g_iret dX10_faultOf_58 rfl ?_
        simpa [mFaultOf, c1, c2, c3] using k
      · refine g_iload_n dX10_faultOf_33 rfl ?_
        refine g_bipushV (v := 16) dX10_faultOf_34 (by decide) ?_
        refine g_icmp_lt 57 dX10_faultOf_36 (by decide) (fun c4 => ?_) (fun c4 => ?_)
        · refine g_iconstV (v := 0) dX10_faultOf_57 (by decide) ?_
          refine g_iret dX10_faultOf_58 rfl ?_
          have hr16 : r < 16 := (nI_ltI (by omega) (by decide)).mp (show nI r < nI 16 from c4)
          simpa [mFaultOf, c1, c2, c3, hr16] using k
        · have hr16 : ¬ r < 16 := fun q => c4 (nI_lt (b := 16) q (by decide))
          obtain ⟨j, hj, rfl⟩ : ∃ j : Nat, j < 16 ∧ i = nI j := by
            obtain ⟨q1, q2⟩ := fIn_1.mp ((fIn_01 i 0 (mA σ 13 r - 1)).resolve_left c2)
            obtain ⟨j, hj, rfl⟩ := nI_of q1
            refine ⟨j, ?_, rfl⟩
            rw [hL c1] at q2
            rcases Nat.lt_or_ge j 16 with z | z
            · exact z
            · refine absurd ?_ q2
              rcases Nat.eq_zero_or_pos L with z0 | z0
              · subst z0; exact Int32.lt_of_lt_of_le (by decide : (nI 0 - 1 : Int32) < 0) (nI_pos' hj)
              · rw [show nI L - 1 = nI (L - 1) from pk_sub z0]; exact nI_lt (by omega) hj
          have e16 : (16 : Int32) * nI r + nI j = nI (16 * r + j) := by rw [show (16 : Int32) = nI 16 from rfl, pk_mul, nI_add]
          have hcj : (nI j).toNatClampNeg = j := nI_clamp (by omega)
          refine g_aload_n dX10_faultOf_39 rfl ?_
          refine mg_getA 16 15 dX10_faultOf_40 fX10_57 rfl rt_15 hS ?_
          refine g_bipushV (v := 16) dX10_faultOf_43 (by decide) ?_
          refine g_iload_n dX10_faultOf_45 rfl ?_
          refine g_imul dX10_faultOf_46 ?_
          refine g_iload_n dX10_faultOf_47 rfl ?_
          refine g_iadd dX10_faultOf_48 ?_
          rw [e16]
          refine mg_zald dX10_faultOf_49 rfl rfl rfl (by omega) hS ?_
          refine g_if_ne 57 dX10_faultOf_50 (by decide) (fun c5 => ?_) (fun c5 => ?_)
          · refine g_iconstV (v := 0) dX10_faultOf_57 (by decide) ?_
            refine g_iret dX10_faultOf_58 rfl ?_
            rw [mFaultOf, if_neg c1, if_neg c2, if_neg c3, if_neg hr16, hcj] at k
            simpa [c5] using k
          · refine g_iconstV (v := 3) dX10_faultOf_53 (by decide) ?_
            refine g_goto 58 dX10_faultOf_54 (by decide) ?_
            refine g_iret dX10_faultOf_58 rfl ?_
            rw [mFaultOf, if_neg c1, if_neg c2, if_neg c3, if_neg hr16, hcj] at k
            simpa [c5] using k
    · refine g_iconstV (v := 4) dX10_faultOf_27 (by decide) ?_
      refine g_iret dX10_faultOf_28 rfl ?_
      simpa [mFaultOf, c1, c2] using k
  · refine g_iconstV (v := 3) dX10_faultOf_9 (by decide) ?_
    refine g_iret dX10_faultOf_10 rfl ?_
    simpa [mFaultOf, c1] using k
