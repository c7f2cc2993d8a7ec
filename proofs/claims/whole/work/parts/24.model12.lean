def mMk (σ : MW) (r : Nat) : Nat → MW
  | 0 => σ
  | k + 1 => sA (sD (mMk σ r k) 14 (16 * r + k) FP.dconst0) 15 (16 * r + k) 0
def mMake (σ : MW) (r : Nat) (n : Int32) : MW := mMk (sA (sA σ 12 r 1) 13 r n) r 16
set_option maxHeartbeats 4000000 in
set_option maxRecDepth 20000 in
theorem m_make_loop {g : GE} {d : Nat} {w : GW} {σ : MW} {Q : Option Value → GW → Prop} (hS : SK g w) {r : Nat} {n : Int32} (hr : r < 18) (k : Q none (put g (mMk σ r 16) w)) : ∀ m i : Nat, i + m = 16 → gF g d mX10_make 43 [(3, .int (nI i)), (0, .ref (eB g + 70)), (1, .int (nI r)), (2, .int n)] [] (put g (mMk σ r i) w) Q
  | 0, i, hi => by
    have e : i = 16 := by omega
    subst e
    refine g_iload_n dX10_make_43 rfl ?_
    refine g_bipushV (v := 16) dX10_make_44 (by decide) ?_
    refine g_icmp_ge 79 dX10_make_46 (by decide) (fun _ => ?_) (fun q => absurd (by decide) q)
    refine g_vret dX10_make_79 rfl ?_
    exact k
  | m + 1, i, hi => by
    have h16 : ¬ (16 : Int32) ≤ nI i := nI_ge (b := 16) (by omega) (by decide)
    have e16 : (16 : Int32) * nI r + nI i = nI (16 * r + i) := by rw [show (16 : Int32) = nI 16 from rfl, pk_mul, nI_add]
    refine g_iload_n dX10_make_43 rfl ?_
    refine g_bipushV (v := 16) dX10_make_44 (by decide) ?_
    refine g_icmp_ge 79 dX10_make_46 (by decide) (fun q => absurd q (h16)) (fun _ => ?_)
    refine g_aload_n dX10_make_49 rfl ?_
    refine mg_getA 15 14 dX10_make_50 fX10_54 rfl rt_14 hS ?_
    refine g_bipushV (v := 16) dX10_make_53 (by decide) ?_
    refine g_iload_n dX10_make_55 rfl ?_
    refine g_imul dX10_make_56 ?_
    refine g_iload_n dX10_make_57 rfl ?_
    refine g_iadd dX10_make_58 ?_
    rw [e16]
    refine g_dconst0 dX10_make_59 ?_
    refine mg_dast dX10_make_60 (by first | exact rfl | assumption) rfl rfl (by omega) hS ?_
    refine g_aload_n dX10_make_61 rfl ?_
    refine mg_getA 16 15 dX10_make_62 fX10_57 rfl rt_15 hS ?_
    refine g_bipushV (v := 16) dX10_make_65 (by decide) ?_
    refine g_iload_n dX10_make_67 rfl ?_
    refine g_imul dX10_make_68 ?_
    refine g_iload_n dX10_make_69 rfl ?_
    refine g_iadd dX10_make_70 ?_
    rw [e16]
    refine g_iconstV (v := 0) dX10_make_71 (by decide) ?_
    refine mg_zast dX10_make_72 (by first | exact rfl | assumption) rfl rfl (by omega) rfl hS ?_
    refine g_iinc (lz := [(3, .int (nI (i + 1))), (0, .ref (eB g + 70)), (1, .int (nI r)), (2, .int n)]) dX10_make_73 rfl (by decide) (by rw [show nI i + Int32.ofInt 1 = nI (i + 1) from nI_1 i]; rfl) ?_
    refine g_goto 43 dX10_make_76 (by decide) ?_
    exact m_make_loop hS hr k m (i + 1) (by omega)
set_option maxHeartbeats 4000000 in
set_option maxRecDepth 20000 in
theorem m_makeBig {g : GE} {d : Nat} {w : GW} {σ : MW} {Q : Option Value → GW → Prop} (hd : 2 ≤ d) (hS : SK g w) {r n : Nat} {z : Int32} (hr : r < 18) (hn : mI σ 22 = nI n) (hn2 : n < 600) (hz : 16 < z) (k : Q none (put g (mFail σ n 8) w)) : gM g d mX10_make [.ref (eB g + 70), .int (nI r), .int z] (put g σ w) Q := by
  refine gM.of (by decide) (Nat.le_of_ble_eq_true rfl) ?_
  refine g_iload_n dX10_make_0 rfl ?_
  refine g_bipushV (v := 16) dX10_make_1 (by decide) ?_
  refine g_icmp_le 15 dX10_make_3 (by decide) (fun q => absurd q (by rw [Int32.not_le]; exact hz)) (fun _ => ?_)
  refine g_aload_n dX10_make_6 rfl ?_
  refine g_bipushV (v := 8) dX10_make_7 (by decide) ?_
  refine g_callV (d1 := d - 1) (As := [_]) 9 dX10_make_9 vX10_191 (by omega) (mg_ob hS) rfl rfl (Nat.le_of_ble_eq_true rfl) ?_
  refine m_fail (by omega) hS hn hn2 ?_
  refine g_goto 79 dX10_make_12 (by decide) ?_
  refine g_vret dX10_make_79 rfl ?_
  exact k
set_option maxHeartbeats 4000000 in
set_option maxRecDepth 20000 in
theorem m_makeNeg {g : GE} {d : Nat} {w : GW} {σ : MW} {Q : Option Value → GW → Prop} (hd : 2 ≤ d) (hS : SK g w) {r n : Nat} {z : Int32} (hr : r < 18) (hn : mI σ 22 = nI n) (hn2 : n < 600) (hz : z < 0) (k : Q none (put g (mFail σ n 5) w)) : gM g d mX10_make [.ref (eB g + 70), .int (nI r), .int z] (put g σ w) Q := by
  refine gM.of (by decide) (Nat.le_of_ble_eq_true rfl) ?_
  refine g_iload_n dX10_make_0 rfl ?_
  refine g_bipushV (v := 16) dX10_make_1 (by decide) ?_
  refine g_icmp_le 15 dX10_make_3 (by decide) (fun _ => ?_) (fun q => absurd (Int32.le_of_lt (Int32.lt_of_lt_of_le hz (by decide))) q)
  refine g_iload_n dX10_make_15 rfl ?_
  refine g_if_ge 27 dX10_make_16 (by decide) (fun q => absurd q (by rw [Int32.not_le]; exact hz)) (fun _ => ?_)
  refine g_aload_n dX10_make_19 rfl ?_
  refine g_iconstV (v := 5) dX10_make_20 (by decide) ?_
  refine g_callV (d1 := d - 1) (As := [_]) 9 dX10_make_21 vX10_191 (by omega) (mg_ob hS) rfl rfl (Nat.le_of_ble_eq_true rfl) ?_
  refine m_fail (by omega) hS hn hn2 ?_
  refine g_goto 79 dX10_make_24 (by decide) ?_
  refine g_vret dX10_make_79 rfl ?_
  exact k
set_option maxHeartbeats 4000000 in
set_option maxRecDepth 20000 in
theorem m_makeOn {g : GE} {d : Nat} {w : GW} {σ : MW} {Q : Option Value → GW → Prop} (hS : SK g w) {r : Nat} {z : Int32} (hr : r < 18) (hz : z ≤ 16) (hz2 : 0 ≤ z) (k : Q none (put g (mMake σ r z) w)) : gM g d mX10_make [.ref (eB g + 70), .int (nI r), .int z] (put g σ w) Q := by
  refine gM.of (by decide) (Nat.le_of_ble_eq_true rfl) ?_
  refine g_iload_n dX10_make_0 rfl ?_
  refine g_bipushV (v := 16) dX10_make_1 (by decide) ?_
  refine g_icmp_le 15 dX10_make_3 (by decide) (fun _ => ?_) (fun q => absurd (hz) q)
  refine g_iload_n dX10_make_15 rfl ?_
  refine g_if_ge 27 dX10_make_16 (by decide) (fun _ => ?_) (fun q => absurd (hz2) q)
  refine g_aload_n dX10_make_27 rfl ?_
  refine mg_getA 13 12 dX10_make_28 fX10_47 rfl rt_12 hS ?_
  refine g_iload_n dX10_make_31 rfl ?_
  refine g_iconstV (v := 1) dX10_make_32 (by decide) ?_
  refine mg_zast dX10_make_33 (by first | exact rfl | assumption) rfl rfl (by omega) rfl hS ?_
  refine g_aload_n dX10_make_34 rfl ?_
  refine mg_getA 14 13 dX10_make_35 fX10_51 rfl rt_13 hS ?_
  refine g_iload_n dX10_make_38 rfl ?_
  refine g_iload_n dX10_make_39 rfl ?_
  refine mg_iast dX10_make_40 (by first | exact rfl | assumption) rfl rfl (by omega) hS ?_
  refine g_iconstV (v := 0) dX10_make_41 (by decide) ?_
  refine g_istore_n dX10_make_42 (by decide) rfl ?_
  exact m_make_loop hS hr k 16 0 (by omega)
set_option maxHeartbeats 4000000 in
set_option maxRecDepth 20000 in
theorem m_onGetF {g : GE} {d : Nat} {w : GW} {σ : MW} {Q : Option Value → GW → Prop} (hd : 2 ≤ d) (hS : SK g w) {p r b n L : Nat} (hp : p < 160) (ha : mA σ 1 p = nI r) (hr : r < 18) (hb : mA σ 2 p = nI b) (hb2 : b < 8) (hL : ¬ mA σ 12 r = 0 → mA σ 13 r = nI L) (hL2 : L ≤ 16) (hw : mA σ 0 p = 16) (hn : mI σ 22 = nI n) (hn2 : n < 600) (hf : 0 < mFaultOf σ r (FP.d2i (mD σ 11 b)) 1) (k : Q none (put g (mFail σ n (mFaultOf σ r (FP.d2i (mD σ 11 b)) 1)) w)) : gM g d mX10_onRow [.ref (eB g + 70), .int (nI p)] (put g σ w) Q := by
  refine gM.of (by decide) (Nat.le_of_ble_eq_true rfl) ?_
  refine g_aload_n dX10_onRow_0 rfl ?_
  refine mg_getA 1 1 dX10_onRow_1 fX10_13 rfl rt_1 hS ?_
  refine g_iload_n dX10_onRow_4 rfl ?_
  refine mg_iald dX10_onRow_5 rfl rfl rfl (by omega) hS ?_
  rw [ha]
  refine g_istore_n dX10_onRow_6 (by decide) rfl ?_
  refine g_aload_n dX10_onRow_7 rfl ?_
  refine mg_getA 12 11 dX10_onRow_8 fX10_43 rfl rt_11 hS ?_
  refine g_aload_n dX10_onRow_11 rfl ?_
  refine mg_getA 2 2 dX10_onRow_12 fX10_16 rfl rt_2 hS ?_
  refine g_iload_n dX10_onRow_15 rfl ?_
  refine mg_iald dX10_onRow_16 rfl rfl rfl (by omega) hS ?_
  rw [hb]
  refine mg_dald dX10_onRow_17 (by first | exact rfl | assumption) rfl rfl (by omega) hS ?_
  refine g_d2i dX10_onRow_18 ?_
  refine g_istore_n dX10_onRow_19 (by decide) rfl ?_
  refine g_aload_n dX10_onRow_20 rfl ?_
  refine g_iload_n dX10_onRow_21 rfl ?_
  refine g_iload_n dX10_onRow_22 rfl ?_
  refine g_aload_n dX10_onRow_23 rfl ?_
  refine mg_getA 0 0 dX10_onRow_24 fX10_7 rfl rt_0 hS ?_
  refine g_iload_n dX10_onRow_27 rfl ?_
  refine mg_iald dX10_onRow_28 (by first | exact rfl | assumption) rfl rfl (by omega) hS ?_
  refine g_bipushV (v := 18) dX10_onRow_29 (by decide) ?_
  refine g_icmp_eq 38 dX10_onRow_31 (by decide) (fun q => absurd q (by rw [hw]; decide)) (fun _ => ?_)
  refine g_iconstV (v := 1) dX10_onRow_34 (by decide) ?_
  refine g_goto 39 dX10_onRow_35 (by decide) ?_
  refine g_callV (d1 := d - 1) (As := [_, _, _]) 9 dX10_onRow_39 vX10_244 (by omega) (mg_ob hS) rfl rfl (Nat.le_of_ble_eq_true rfl) ?_
  refine m_faultOf (by omega) hS hr hL hL2 ?_
  refine g_istore dX10_onRow_42 (by decide) rfl ?_
  refine g_iload dX10_onRow_44 rfl ?_
  refine g_if_le 58 dX10_onRow_46 (by decide) (fun q => absurd q (by rw [Int32.not_le]; exact hf)) (fun _ => ?_)
  refine g_aload_n dX10_onRow_49 rfl ?_
  refine g_iload dX10_onRow_50 rfl ?_
  refine g_callV (d1 := d - 1) (As := [_]) 9 dX10_onRow_52 vX10_191 (by omega) (mg_ob hS) rfl rfl (Nat.le_of_ble_eq_true rfl) ?_
  refine m_fail (by omega) hS hn hn2 ?_
  refine g_goto 160 dX10_onRow_55 (by decide) ?_
  refine g_vret dX10_onRow_160 rfl ?_
  exact k
set_option maxHeartbeats 4000000 in
set_option maxRecDepth 20000 in
theorem m_onGet {g : GE} {d : Nat} {w : GW} {σ : MW} {Q : Option Value → GW → Prop} (hd : 2 ≤ d) (hS : SK g w) {p r b L : Nat} (hp : p < 160) (ha : mA σ 1 p = nI r) (hr : r < 18) (hb : mA σ 2 p = nI b) (hb2 : b < 8) (hL : ¬ mA σ 12 r = 0 → mA σ 13 r = nI L) (hL2 : L ≤ 16) {j : Nat} (hw : mA σ 0 p = 16) (hj : j < 16) (hj2 : (FP.d2i (mD σ 11 b)) = nI j) (hf : mFaultOf σ r (FP.d2i (mD σ 11 b)) 1 = 0) {c : Nat} (hc : mA σ 3 p = nI c) (hc2 : c < 8) (k : Q none (put g (sD σ 11 c (mD σ 14 (16 * r + j))) w)) : gM g d mX10_onRow [.ref (eB g + 70), .int (nI p)] (put g σ w) Q := by
  refine gM.of (by decide) (Nat.le_of_ble_eq_true rfl) ?_
  have e16 : (16 : Int32) * nI r + FP.d2i (mD σ 11 b) = nI (16 * r + j) := by rw [hj2, show (16 : Int32) = nI 16 from rfl, pk_mul, nI_add]
  refine g_aload_n dX10_onRow_0 rfl ?_
  refine mg_getA 1 1 dX10_onRow_1 fX10_13 rfl rt_1 hS ?_
  refine g_iload_n dX10_onRow_4 rfl ?_
  refine mg_iald dX10_onRow_5 rfl rfl rfl (by omega) hS ?_
  rw [ha]
  refine g_istore_n dX10_onRow_6 (by decide) rfl ?_
  refine g_aload_n dX10_onRow_7 rfl ?_
  refine mg_getA 12 11 dX10_onRow_8 fX10_43 rfl rt_11 hS ?_
  refine g_aload_n dX10_onRow_11 rfl ?_
  refine mg_getA 2 2 dX10_onRow_12 fX10_16 rfl rt_2 hS ?_
  refine g_iload_n dX10_onRow_15 rfl ?_
  refine mg_iald dX10_onRow_16 rfl rfl rfl (by omega) hS ?_
  rw [hb]
  refine mg_dald dX10_onRow_17 (by first | exact rfl | assumption) rfl rfl (by omega) hS ?_
  refine g_d2i dX10_onRow_18 ?_
  refine g_istore_n dX10_onRow_19 (by decide) rfl ?_
  refine g_aload_n dX10_onRow_20 rfl ?_
  refine g_iload_n dX10_onRow_21 rfl ?_
  refine g_iload_n dX10_onRow_22 rfl ?_
  refine g_aload_n dX10_onRow_23 rfl ?_
  refine mg_getA 0 0 dX10_onRow_24 fX10_7 rfl rt_0 hS ?_
  refine g_iload_n dX10_onRow_27 rfl ?_
  refine mg_iald dX10_onRow_28 (by first | exact rfl | assumption) rfl rfl (by omega) hS ?_
  refine g_bipushV (v := 18) dX10_onRow_29 (by decide) ?_
  refine g_icmp_eq 38 dX10_onRow_31 (by decide) (fun q => absurd q (by rw [hw]; decide)) (fun _ => ?_)
  refine g_iconstV (v := 1) dX10_onRow_34 (by decide) ?_
  refine g_goto 39 dX10_onRow_35 (by decide) ?_
  refine g_callV (d1 := d - 1) (As := [_, _, _]) 9 dX10_onRow_39 vX10_244 (by omega) (mg_ob hS) rfl rfl (Nat.le_of_ble_eq_true rfl) ?_
  refine m_faultOf (by omega) hS hr hL hL2 ?_
  refine g_istore dX10_onRow_42 (by decide) rfl ?_
  refine g_iload dX10_onRow_44 rfl ?_
  refine g_if_le 58 dX10_onRow_46 (by decide) (fun _ => ?_) (fun q => absurd (by rw [hf]; decide) q)
  refine g_aload_n dX10_onRow_58 rfl ?_
  refine mg_getA 0 0 dX10_onRow_59 fX10_7 rfl rt_0 hS ?_
  refine g_iload_n dX10_onRow_62 rfl ?_
  refine mg_iald dX10_onRow_63 (by first | exact rfl | assumption) rfl rfl (by omega) hS ?_
  refine g_bipushV (v := 16) dX10_onRow_64 (by decide) ?_
  refine g_icmp_ne 94 dX10_onRow_66 (by decide) (fun q => absurd (hw) q) (fun _ => ?_)
  refine g_aload_n dX10_onRow_69 rfl ?_
  refine mg_getA 12 11 dX10_onRow_70 fX10_43 rfl rt_11 hS ?_
  refine g_aload_n dX10_onRow_73 rfl ?_
  refine mg_getA 3 3 dX10_onRow_74 fX10_19 rfl rt_3 hS ?_
  refine g_iload_n dX10_onRow_77 rfl ?_
  refine mg_iald dX10_onRow_78 rfl rfl rfl (by omega) hS ?_
  rw [hc]
  refine g_aload_n dX10_onRow_79 rfl ?_
  refine mg_getA 15 14 dX10_onRow_80 fX10_54 rfl rt_14 hS ?_
  refine g_bipushV (v := 16) dX10_onRow_83 (by decide) ?_
  refine g_iload_n dX10_onRow_85 rfl ?_
  refine g_imul dX10_onRow_86 ?_
  refine g_iload_n dX10_onRow_87 rfl ?_
  refine g_iadd dX10_onRow_88 ?_
  rw [e16]
  refine mg_dald dX10_onRow_89 (by first | exact rfl | assumption) rfl rfl (by omega) hS ?_
  refine mg_dast dX10_onRow_90 (by first | exact rfl | assumption) rfl rfl (by omega) hS ?_
  refine g_goto 160 dX10_onRow_91 (by decide) ?_
  refine g_vret dX10_onRow_160 rfl ?_
  exact k
set_option maxHeartbeats 4000000 in
set_option maxRecDepth 20000 in
theorem m_onPutF {g : GE} {d : Nat} {w : GW} {σ : MW} {Q : Option Value → GW → Prop} (hd : 2 ≤ d) (hS : SK g w) {p r b n L : Nat} (hp : p < 160) (ha : mA σ 1 p = nI r) (hr : r < 18) (hb : mA σ 2 p = nI b) (hb2 : b < 8) (hL : ¬ mA σ 12 r = 0 → mA σ 13 r = nI L) (hL2 : L ≤ 16) (hw : mA σ 0 p = 17) (hn : mI σ 22 = nI n) (hn2 : n < 600) (hf : 0 < mFaultOf σ r (FP.d2i (mD σ 11 b)) 1) (k : Q none (put g (mFail σ n (mFaultOf σ r (FP.d2i (mD σ 11 b)) 1)) w)) : gM g d mX10_onRow [.ref (eB g + 70), .int (nI p)] (put g σ w) Q := by
  refine gM.of (by decide) (Nat.le_of_ble_eq_true rfl) ?_
  refine g_aload_n dX10_onRow_0 rfl ?_
  refine mg_getA 1 1 dX10_onRow_1 fX10_13 rfl rt_1 hS ?_
  refine g_iload_n dX10_onRow_4 rfl ?_
  refine mg_iald dX10_onRow_5 rfl rfl rfl (by omega) hS ?_
  rw [ha]
  refine g_istore_n dX10_onRow_6 (by decide) rfl ?_
  refine g_aload_n dX10_onRow_7 rfl ?_
  refine mg_getA 12 11 dX10_onRow_8 fX10_43 rfl rt_11 hS ?_
  refine g_aload_n dX10_onRow_11 rfl ?_
  refine mg_getA 2 2 dX10_onRow_12 fX10_16 rfl rt_2 hS ?_
  refine g_iload_n dX10_onRow_15 rfl ?_
  refine mg_iald dX10_onRow_16 rfl rfl rfl (by omega) hS ?_
  rw [hb]
  refine mg_dald dX10_onRow_17 (by first | exact rfl | assumption) rfl rfl (by omega) hS ?_
  refine g_d2i dX10_onRow_18 ?_
  refine g_istore_n dX10_onRow_19 (by decide) rfl ?_
  refine g_aload_n dX10_onRow_20 rfl ?_
  refine g_iload_n dX10_onRow_21 rfl ?_
  refine g_iload_n dX10_onRow_22 rfl ?_
  refine g_aload_n dX10_onRow_23 rfl ?_
  refine mg_getA 0 0 dX10_onRow_24 fX10_7 rfl rt_0 hS ?_
  refine g_iload_n dX10_onRow_27 rfl ?_
  refine mg_iald dX10_onRow_28 (by first | exact rfl | assumption) rfl rfl (by omega) hS ?_
  refine g_bipushV (v := 18) dX10_onRow_29 (by decide) ?_
  refine g_icmp_eq 38 dX10_onRow_31 (by decide) (fun q => absurd q (by rw [hw]; decide)) (fun _ => ?_)
  refine g_iconstV (v := 1) dX10_onRow_34 (by decide) ?_
  refine g_goto 39 dX10_onRow_35 (by decide) ?_
  refine g_callV (d1 := d - 1) (As := [_, _, _]) 9 dX10_onRow_39 vX10_244 (by omega) (mg_ob hS) rfl rfl (Nat.le_of_ble_eq_true rfl) ?_
  refine m_faultOf (by omega) hS hr hL hL2 ?_
  refine g_istore dX10_onRow_42 (by decide) rfl ?_
  refine g_iload dX10_onRow_44 rfl ?_
  refine g_if_le 58 dX10_onRow_46 (by decide) (fun q => absurd q (by rw [Int32.not_le]; exact hf)) (fun _ => ?_)
  refine g_aload_n dX10_onRow_49 rfl ?_
  refine g_iload dX10_onRow_50 rfl ?_
  refine g_callV (d1 := d - 1) (As := [_]) 9 dX10_onRow_52 vX10_191 (by omega) (mg_ob hS) rfl rfl (Nat.le_of_ble_eq_true rfl) ?_
  refine m_fail (by omega) hS hn hn2 ?_
  refine g_goto 160 dX10_onRow_55 (by decide) ?_
  refine g_vret dX10_onRow_160 rfl ?_
  exact k
set_option maxHeartbeats 4000000 in
set_option maxRecDepth 20000 in
theorem m_onPut {g : GE} {d : Nat} {w : GW} {σ : MW} {Q : Option Value → GW → Prop} (hd : 2 ≤ d) (hS : SK g w) {p r b L : Nat} (hp : p < 160) (ha : mA σ 1 p = nI r) (hr : r < 18) (hb : mA σ 2 p = nI b) (hb2 : b < 8) (hL : ¬ mA σ 12 r = 0 → mA σ 13 r = nI L) (hL2 : L ≤ 16) {j : Nat} (hw : mA σ 0 p = 17) (hj : j < 16) (hj2 : (FP.d2i (mD σ 11 b)) = nI j) (hf : mFaultOf σ r (FP.d2i (mD σ 11 b)) 1 = 0) {c : Nat} (hc : mA σ 3 p = nI c) (hc2 : c < 8) (hf1 : vf_n32 (FP.d2f (mD σ 11 c))) (hf2 : vf_n64 (FP.f2d (FP.d2f (mD σ 11 c)))) (k : Q none (put g (sD σ 14 (16 * r + j) (fHeld (r / 2) (mD σ 11 c))) w)) : gM g d mX10_onRow [.ref (eB g + 70), .int (nI p)] (put g σ w) Q := by
  refine gM.of (by decide) (Nat.le_of_ble_eq_true rfl) ?_
  have e16 : (16 : Int32) * nI r + FP.d2i (mD σ 11 b) = nI (16 * r + j) := by rw [hj2, show (16 : Int32) = nI 16 from rfl, pk_mul, nI_add]
  have e2 : nI r / 2 = nI (r / 2) := pk_div (d := 2) (by omega) (by decide) (by decide)
  refine g_aload_n dX10_onRow_0 rfl ?_
  refine mg_getA 1 1 dX10_onRow_1 fX10_13 rfl rt_1 hS ?_
  refine g_iload_n dX10_onRow_4 rfl ?_
  refine mg_iald dX10_onRow_5 rfl rfl rfl (by omega) hS ?_
  rw [ha]
  refine g_istore_n dX10_onRow_6 (by decide) rfl ?_
  refine g_aload_n dX10_onRow_7 rfl ?_
  refine mg_getA 12 11 dX10_onRow_8 fX10_43 rfl rt_11 hS ?_
  refine g_aload_n dX10_onRow_11 rfl ?_
  refine mg_getA 2 2 dX10_onRow_12 fX10_16 rfl rt_2 hS ?_
  refine g_iload_n dX10_onRow_15 rfl ?_
  refine mg_iald dX10_onRow_16 rfl rfl rfl (by omega) hS ?_
  rw [hb]
  refine mg_dald dX10_onRow_17 (by first | exact rfl | assumption) rfl rfl (by omega) hS ?_
  refine g_d2i dX10_onRow_18 ?_
  refine g_istore_n dX10_onRow_19 (by decide) rfl ?_
  refine g_aload_n dX10_onRow_20 rfl ?_
  refine g_iload_n dX10_onRow_21 rfl ?_
  refine g_iload_n dX10_onRow_22 rfl ?_
  refine g_aload_n dX10_onRow_23 rfl ?_
  refine mg_getA 0 0 dX10_onRow_24 fX10_7 rfl rt_0 hS ?_
  refine g_iload_n dX10_onRow_27 rfl ?_
  refine mg_iald dX10_onRow_28 (by first | exact rfl | assumption) rfl rfl (by omega) hS ?_
  refine g_bipushV (v := 18) dX10_onRow_29 (by decide) ?_
  refine g_icmp_eq 38 dX10_onRow_31 (by decide) (fun q => absurd q (by rw [hw]; decide)) (fun _ => ?_)
  refine g_iconstV (v := 1) dX10_onRow_34 (by decide) ?_
  refine g_goto 39 dX10_onRow_35 (by decide) ?_
  refine g_callV (d1 := d - 1) (As := [_, _, _]) 9 dX10_onRow_39 vX10_244 (by omega) (mg_ob hS) rfl rfl (Nat.le_of_ble_eq_true rfl) ?_
  refine m_faultOf (by omega) hS hr hL hL2 ?_
  refine g_istore dX10_onRow_42 (by decide) rfl ?_
  refine g_iload dX10_onRow_44 rfl ?_
  refine g_if_le 58 dX10_onRow_46 (by decide) (fun _ => ?_) (fun q => absurd (by rw [hf]; decide) q)
  refine g_aload_n dX10_onRow_58 rfl ?_
  refine mg_getA 0 0 dX10_onRow_59 fX10_7 rfl rt_0 hS ?_
  refine g_iload_n dX10_onRow_62 rfl ?_
  refine mg_iald dX10_onRow_63 (by first | exact rfl | assumption) rfl rfl (by omega) hS ?_
  refine g_bipushV (v := 16) dX10_onRow_64 (by decide) ?_
  refine g_icmp_ne 94 dX10_onRow_66 (by decide) (fun _ => ?_) (fun q => absurd q (by rw [hw]; decide))
  refine g_aload_n dX10_onRow_94 rfl ?_
  refine mg_getA 0 0 dX10_onRow_95 fX10_7 rfl rt_0 hS ?_
  refine g_iload_n dX10_onRow_98 rfl ?_
  refine mg_iald dX10_onRow_99 (by first | exact rfl | assumption) rfl rfl (by omega) hS ?_
  refine g_bipushV (v := 17) dX10_onRow_100 (by decide) ?_
  refine g_icmp_ne 136 dX10_onRow_102 (by decide) (fun q => absurd (hw) q) (fun _ => ?_)
  refine g_aload_n dX10_onRow_105 rfl ?_
  refine mg_getA 15 14 dX10_onRow_106 fX10_54 rfl rt_14 hS ?_
  refine g_bipushV (v := 16) dX10_onRow_109 (by decide) ?_
  refine g_iload_n dX10_onRow_111 rfl ?_
  refine g_imul dX10_onRow_112 ?_
  refine g_iload_n dX10_onRow_113 rfl ?_
  refine g_iadd dX10_onRow_114 ?_
  rw [e16]
  refine g_iload_n dX10_onRow_115 rfl ?_
  refine g_iconstV (v := 2) dX10_onRow_116 (by decide) ?_
  refine g_idiv dX10_onRow_117 (by decide) ?_
  rw [e2]
  refine g_aload_n dX10_onRow_118 rfl ?_
  refine mg_getA 12 11 dX10_onRow_119 fX10_43 rfl rt_11 hS ?_
  refine g_aload_n dX10_onRow_122 rfl ?_
  refine mg_getA 3 3 dX10_onRow_123 fX10_19 rfl rt_3 hS ?_
  refine g_iload_n dX10_onRow_126 rfl ?_
  refine mg_iald dX10_onRow_127 rfl rfl rfl (by omega) hS ?_
  rw [hc]
  refine mg_dald dX10_onRow_128 (by first | exact rfl | assumption) rfl rfl (by omega) hS ?_
  refine g_callS (d1 := d - 1) (As := [_, _]) dX10_onRow_129 sX10_248 (by omega) rfl rfl (Nat.le_of_ble_eq_true rfl) ?_
  refine m_kept (by omega) hf1 hf2 ?_
  refine mg_dast dX10_onRow_132 (by first | exact rfl | assumption) rfl rfl (by omega) hS ?_
  refine g_goto 160 dX10_onRow_133 (by decide) ?_
  refine g_vret dX10_onRow_160 rfl ?_
  exact k
set_option maxHeartbeats 4000000 in
set_option maxRecDepth 20000 in
theorem m_onFitF {g : GE} {d : Nat} {w : GW} {σ : MW} {Q : Option Value → GW → Prop} (hd : 2 ≤ d) (hS : SK g w) {p r b n L : Nat} (hp : p < 160) (ha : mA σ 1 p = nI r) (hr : r < 18) (hb : mA σ 2 p = nI b) (hb2 : b < 8) (hL : ¬ mA σ 12 r = 0 → mA σ 13 r = nI L) (hL2 : L ≤ 16) (hw : mA σ 0 p = 18) (hn : mI σ 22 = nI n) (hn2 : n < 600) (hf : 0 < mFaultOf σ r (FP.d2i (mD σ 11 b)) 0) (k : Q none (put g (mFail σ n (mFaultOf σ r (FP.d2i (mD σ 11 b)) 0)) w)) : gM g d mX10_onRow [.ref (eB g + 70), .int (nI p)] (put g σ w) Q := by
  refine gM.of (by decide) (Nat.le_of_ble_eq_true rfl) ?_
  refine g_aload_n dX10_onRow_0 rfl ?_
  refine mg_getA 1 1 dX10_onRow_1 fX10_13 rfl rt_1 hS ?_
  refine g_iload_n dX10_onRow_4 rfl ?_
  refine mg_iald dX10_onRow_5 rfl rfl rfl (by omega) hS ?_
  rw [ha]
  refine g_istore_n dX10_onRow_6 (by decide) rfl ?_
  refine g_aload_n dX10_onRow_7 rfl ?_
  refine mg_getA 12 11 dX10_onRow_8 fX10_43 rfl rt_11 hS ?_
  refine g_aload_n dX10_onRow_11 rfl ?_
  refine mg_getA 2 2 dX10_onRow_12 fX10_16 rfl rt_2 hS ?_
  refine g_iload_n dX10_onRow_15 rfl ?_
  refine mg_iald dX10_onRow_16 rfl rfl rfl (by omega) hS ?_
  rw [hb]
  refine mg_dald dX10_onRow_17 (by first | exact rfl | assumption) rfl rfl (by omega) hS ?_
  refine g_d2i dX10_onRow_18 ?_
  refine g_istore_n dX10_onRow_19 (by decide) rfl ?_
  refine g_aload_n dX10_onRow_20 rfl ?_
  refine g_iload_n dX10_onRow_21 rfl ?_
  refine g_iload_n dX10_onRow_22 rfl ?_
  refine g_aload_n dX10_onRow_23 rfl ?_
  refine mg_getA 0 0 dX10_onRow_24 fX10_7 rfl rt_0 hS ?_
  refine g_iload_n dX10_onRow_27 rfl ?_
  refine mg_iald dX10_onRow_28 (by first | exact rfl | assumption) rfl rfl (by omega) hS ?_
  refine g_bipushV (v := 18) dX10_onRow_29 (by decide) ?_
  refine g_icmp_eq 38 dX10_onRow_31 (by decide) (fun _ => ?_) (fun q => absurd (hw) q)
  refine g_iconstV (v := 0) dX10_onRow_38 (by decide) ?_
  refine g_callV (d1 := d - 1) (As := [_, _, _]) 9 dX10_onRow_39 vX10_244 (by omega) (mg_ob hS) rfl rfl (Nat.le_of_ble_eq_true rfl) ?_
  refine m_faultOf (by omega) hS hr hL hL2 ?_
  refine g_istore dX10_onRow_42 (by decide) rfl ?_
  refine g_iload dX10_onRow_44 rfl ?_
  refine g_if_le 58 dX10_onRow_46 (by decide) (fun q => absurd q (by rw [Int32.not_le]; exact hf)) (fun _ => ?_)
  refine g_aload_n dX10_onRow_49 rfl ?_
  refine g_iload dX10_onRow_50 rfl ?_
  refine g_callV (d1 := d - 1) (As := [_]) 9 dX10_onRow_52 vX10_191 (by omega) (mg_ob hS) rfl rfl (Nat.le_of_ble_eq_true rfl) ?_
  refine m_fail (by omega) hS hn hn2 ?_
  refine g_goto 160 dX10_onRow_55 (by decide) ?_
  refine g_vret dX10_onRow_160 rfl ?_
  exact k
set_option maxHeartbeats 4000000 in
set_option maxRecDepth 20000 in
theorem m_onFit {g : GE} {d : Nat} {w : GW} {σ : MW} {Q : Option Value → GW → Prop} (hd : 2 ≤ d) (hS : SK g w) {p r b L : Nat} (hp : p < 160) (ha : mA σ 1 p = nI r) (hr : r < 18) (hb : mA σ 2 p = nI b) (hb2 : b < 8) (hL : ¬ mA σ 12 r = 0 → mA σ 13 r = nI L) (hL2 : L ≤ 16) {j : Nat} (hw : mA σ 0 p = 18) (hj : j < 16) (hj2 : (FP.d2i (mD σ 11 b)) = nI j) (hf : mFaultOf σ r (FP.d2i (mD σ 11 b)) 0 = 0) (k : Q none (put g (sD (sA σ 15 (16 * r + j) 1) 14 (16 * r + j) FP.dconst0) w)) : gM g d mX10_onRow [.ref (eB g + 70), .int (nI p)] (put g σ w) Q := by
  refine gM.of (by decide) (Nat.le_of_ble_eq_true rfl) ?_
  have e16 : (16 : Int32) * nI r + FP.d2i (mD σ 11 b) = nI (16 * r + j) := by rw [hj2, show (16 : Int32) = nI 16 from rfl, pk_mul, nI_add]
  refine g_aload_n dX10_onRow_0 rfl ?_
  refine mg_getA 1 1 dX10_onRow_1 fX10_13 rfl rt_1 hS ?_
  refine g_iload_n dX10_onRow_4 rfl ?_
  refine mg_iald dX10_onRow_5 rfl rfl rfl (by omega) hS ?_
  rw [ha]
  refine g_istore_n dX10_onRow_6 (by decide) rfl ?_
  refine g_aload_n dX10_onRow_7 rfl ?_
  refine mg_getA 12 11 dX10_onRow_8 fX10_43 rfl rt_11 hS ?_
  refine g_aload_n dX10_onRow_11 rfl ?_
  refine mg_getA 2 2 dX10_onRow_12 fX10_16 rfl rt_2 hS ?_
  refine g_iload_n dX10_onRow_15 rfl ?_
  refine mg_iald dX10_onRow_16 rfl rfl rfl (by omega) hS ?_
  rw [hb]
  refine mg_dald dX10_onRow_17 (by first | exact rfl | assumption) rfl rfl (by omega) hS ?_
  refine g_d2i dX10_onRow_18 ?_
  refine g_istore_n dX10_onRow_19 (by decide) rfl ?_
  refine g_aload_n dX10_onRow_20 rfl ?_
  refine g_iload_n dX10_onRow_21 rfl ?_
  refine g_iload_n dX10_onRow_22 rfl ?_
  refine g_aload_n dX10_onRow_23 rfl ?_
  refine mg_getA 0 0 dX10_onRow_24 fX10_7 rfl rt_0 hS ?_
  refine g_iload_n dX10_onRow_27 rfl ?_
  refine mg_iald dX10_onRow_28 (by first | exact rfl | assumption) rfl rfl (by omega) hS ?_
  refine g_bipushV (v := 18) dX10_onRow_29 (by decide) ?_
  refine g_icmp_eq 38 dX10_onRow_31 (by decide) (fun _ => ?_) (fun q => absurd (hw) q)
  refine g_iconstV (v := 0) dX10_onRow_38 (by decide) ?_
  refine g_callV (d1 := d - 1) (As := [_, _, _]) 9 dX10_onRow_39 vX10_244 (by omega) (mg_ob hS) rfl rfl (Nat.le_of_ble_eq_true rfl) ?_
  refine m_faultOf (by omega) hS hr hL hL2 ?_
  refine g_istore dX10_onRow_42 (by decide) rfl ?_
  refine g_iload dX10_onRow_44 rfl ?_
  refine g_if_le 58 dX10_onRow_46 (by decide) (fun _ => ?_) (fun q => absurd (by rw [hf]; decide) q)
  refine g_aload_n dX10_onRow_58 rfl ?_
  refine mg_getA 0 0 dX10_onRow_59 fX10_7 rfl rt_0 hS ?_
  refine g_iload_n dX10_onRow_62 rfl ?_
  refine mg_iald dX10_onRow_63 (by first | exact rfl | assumption) rfl rfl (by omega) hS ?_
  refine g_bipushV (v := 16) dX10_onRow_64 (by decide) ?_
  refine g_icmp_ne 94 dX10_onRow_66 (by decide) (fun _ => ?_) (fun q => absurd q (by rw [hw]; decide))
  refine g_aload_n dX10_onRow_94 rfl ?_
  refine mg_getA 0 0 dX10_onRow_95 fX10_7 rfl rt_0 hS ?_
  refine g_iload_n dX10_onRow_98 rfl ?_
  refine mg_iald dX10_onRow_99 (by first | exact rfl | assumption) rfl rfl (by omega) hS ?_
  refine g_bipushV (v := 17) dX10_onRow_100 (by decide) ?_
  refine g_icmp_ne 136 dX10_onRow_102 (by decide) (fun _ => ?_) (fun q => absurd q (by rw [hw]; decide))
  refine g_aload_n dX10_onRow_136 rfl ?_
  refine mg_getA 16 15 dX10_onRow_137 fX10_57 rfl rt_15 hS ?_
  refine g_bipushV (v := 16) dX10_onRow_140 (by decide) ?_
  refine g_iload_n dX10_onRow_142 rfl ?_
  refine g_imul dX10_onRow_143 ?_
  refine g_iload_n dX10_onRow_144 rfl ?_
  refine g_iadd dX10_onRow_145 ?_
  rw [e16]
  refine g_iconstV (v := 1) dX10_onRow_146 (by decide) ?_
  refine mg_zast dX10_onRow_147 (by first | exact rfl | assumption) rfl rfl (by omega) rfl hS ?_
  refine g_aload_n dX10_onRow_148 rfl ?_
  refine mg_getA 15 14 dX10_onRow_149 fX10_54 rfl rt_14 hS ?_
  refine g_bipushV (v := 16) dX10_onRow_152 (by decide) ?_
  refine g_iload_n dX10_onRow_154 rfl ?_
  refine g_imul dX10_onRow_155 ?_
  refine g_iload_n dX10_onRow_156 rfl ?_
  refine g_iadd dX10_onRow_157 ?_
  rw [e16]
  refine g_dconst0 dX10_onRow_158 ?_
  refine mg_dast dX10_onRow_159 (by first | exact rfl | assumption) rfl rfl (by omega) hS ?_
  refine g_vret dX10_onRow_160 rfl ?_
  exact k
set_option maxHeartbeats 4000000 in
set_option maxRecDepth 20000 in
theorem m_workMake {g : GE} {d : Nat} {w : GW} {σ : MW} {Q : Option Value → GW → Prop} (hd : 1 ≤ d) (hS : SK g w) {p a b : Nat} (hp : p < 160) (ha : mA σ 1 p = nI a) (hw : mA σ 0 p = 13) (hb : mA σ 2 p = nI b) (hb2 : b < 8) (ha2 : a < 18) (k : gM g (d - 1) mX10_make [.ref (eB g + 70), .int (nI a), .int (FP.d2i (mD σ 11 b))] (put g σ w) (fun r w1 => r = none ∧ Q none w1)) : gM g d mX10_work [.ref (eB g + 70), .int (nI p)] (put g σ w) Q := by
  refine gM.of (by decide) (Nat.le_of_ble_eq_true rfl) ?_
  refine g_aload_n dX10_work_0 rfl ?_
  refine mg_getA 1 1 dX10_work_1 fX10_13 rfl rt_1 hS ?_
  refine g_iload_n dX10_work_4 rfl ?_
  refine mg_iald dX10_work_5 rfl rfl rfl (by omega) hS ?_
  rw [ha]
  refine g_istore_n dX10_work_6 (by decide) rfl ?_
  refine g_aload_n dX10_work_7 rfl ?_
  refine mg_getA 2 2 dX10_work_8 fX10_16 rfl rt_2 hS ?_
  refine g_iload_n dX10_work_11 rfl ?_
  refine mg_iald dX10_work_12 rfl rfl rfl (by omega) hS ?_
  rw [hb]
  refine g_istore_n dX10_work_13 (by decide) rfl ?_
  refine g_aload_n dX10_work_14 rfl ?_
  refine mg_getA 0 0 dX10_work_15 fX10_7 rfl rt_0 hS ?_
  refine g_iload_n dX10_work_18 rfl ?_
  refine mg_iald dX10_work_19 (by first | exact rfl | assumption) rfl rfl (by omega) hS ?_
  refine g_tableIn (off := 64) 84 dX10_work_20 (by rw [hw]; decide) (by rw [hw]; decide) (by rw [hw]; rfl) (by decide) ?_
  refine g_aload_n dX10_work_84 rfl ?_
  refine g_iload_n dX10_work_85 rfl ?_
  refine g_aload_n dX10_work_86 rfl ?_
  refine mg_getA 12 11 dX10_work_87 fX10_43 rfl rt_11 hS ?_
  refine g_iload_n dX10_work_90 rfl ?_
  refine mg_dald dX10_work_91 (by first | exact rfl | assumption) rfl rfl (by omega) hS ?_
  refine g_d2i dX10_work_92 ?_
  refine g_callV (d1 := d - 1) (As := [_, _]) 9 dX10_work_93 vX10_252 (by omega) (mg_ob hS) rfl rfl (Nat.le_of_ble_eq_true rfl) ?_
  refine gM.imp k (fun r w1 _ _ hq => ?_)
  obtain ⟨rfl, hq⟩ := hq
  refine g_goto 207 dX10_work_96 (by decide) ?_
  refine g_vret dX10_work_207 rfl ?_
  exact hq
set_option maxHeartbeats 4000000 in
set_option maxRecDepth 20000 in
theorem m_workDrop {g : GE} {d : Nat} {w : GW} {σ : MW} {Q : Option Value → GW → Prop} (hS : SK g w) {p a : Nat} (hp : p < 160) (ha : mA σ 1 p = nI a) (hw : mA σ 0 p = 14) (ha2 : a < 18) (k : Q none (put g (sA σ 12 a 0) w)) : gM g d mX10_work [.ref (eB g + 70), .int (nI p)] (put g σ w) Q := by
  refine gM.of (by decide) (Nat.le_of_ble_eq_true rfl) ?_
  refine g_aload_n dX10_work_0 rfl ?_
  refine mg_getA 1 1 dX10_work_1 fX10_13 rfl rt_1 hS ?_
  refine g_iload_n dX10_work_4 rfl ?_
  refine mg_iald dX10_work_5 rfl rfl rfl (by omega) hS ?_
  rw [ha]
  refine g_istore_n dX10_work_6 (by decide) rfl ?_
  refine g_aload_n dX10_work_7 rfl ?_
  refine mg_getA 2 2 dX10_work_8 fX10_16 rfl rt_2 hS ?_
  refine g_iload_n dX10_work_11 rfl ?_
  refine mg_iald dX10_work_12 (by first | exact rfl | assumption) rfl rfl (by omega) hS ?_
  refine g_istore_n dX10_work_13 (by decide) rfl ?_
  refine g_aload_n dX10_work_14 rfl ?_
  refine mg_getA 0 0 dX10_work_15 fX10_7 rfl rt_0 hS ?_
  refine g_iload_n dX10_work_18 rfl ?_
  refine mg_iald dX10_work_19 (by first | exact rfl | assumption) rfl rfl (by omega) hS ?_
  refine g_tableIn (off := 79) 99 dX10_work_20 (by rw [hw]; decide) (by rw [hw]; decide) (by rw [hw]; rfl) (by decide) ?_
  refine g_aload_n dX10_work_99 rfl ?_
  refine mg_getA 13 12 dX10_work_100 fX10_47 rfl rt_12 hS ?_
  refine g_iload_n dX10_work_103 rfl ?_
  refine g_iconstV (v := 0) dX10_work_104 (by decide) ?_
  refine mg_zast dX10_work_105 (by first | exact rfl | assumption) rfl rfl (by omega) rfl hS ?_
  refine g_goto 207 dX10_work_106 (by decide) ?_
  refine g_vret dX10_work_207 rfl ?_
  exact k
set_option maxHeartbeats 4000000 in
set_option maxRecDepth 20000 in
theorem m_workCountF {g : GE} {d : Nat} {w : GW} {σ : MW} {Q : Option Value → GW → Prop} (hd : 2 ≤ d) (hS : SK g w) {p a b : Nat} (hp : p < 160) (ha : mA σ 1 p = nI a) (hw : mA σ 0 p = 15) (hb : mA σ 2 p = nI b) (hb2 : b < 8) (ha2 : a < 18) {n : Nat} (hn : mI σ 22 = nI n) (hn2 : n < 600) (h0 : mA σ 12 a = 0) (k : Q none (put g (mFail σ n 3) w)) : gM g d mX10_work [.ref (eB g + 70), .int (nI p)] (put g σ w) Q := by
  refine gM.of (by decide) (Nat.le_of_ble_eq_true rfl) ?_
  refine g_aload_n dX10_work_0 rfl ?_
  refine mg_getA 1 1 dX10_work_1 fX10_13 rfl rt_1 hS ?_
  refine g_iload_n dX10_work_4 rfl ?_
  refine mg_iald dX10_work_5 rfl rfl rfl (by omega) hS ?_
  rw [ha]
  refine g_istore_n dX10_work_6 (by decide) rfl ?_
  refine g_aload_n dX10_work_7 rfl ?_
  refine mg_getA 2 2 dX10_work_8 fX10_16 rfl rt_2 hS ?_
  refine g_iload_n dX10_work_11 rfl ?_
  refine mg_iald dX10_work_12 rfl rfl rfl (by omega) hS ?_
  rw [hb]
  refine g_istore_n dX10_work_13 (by decide) rfl ?_
  refine g_aload_n dX10_work_14 rfl ?_
  refine mg_getA 0 0 dX10_work_15 fX10_7 rfl rt_0 hS ?_
  refine g_iload_n dX10_work_18 rfl ?_
  refine mg_iald dX10_work_19 (by first | exact rfl | assumption) rfl rfl (by omega) hS ?_
  refine g_tableIn (off := 89) 109 dX10_work_20 (by rw [hw]; decide) (by rw [hw]; decide) (by rw [hw]; rfl) (by decide) ?_
  refine g_aload_n dX10_work_109 rfl ?_
  refine mg_getA 13 12 dX10_work_110 fX10_47 rfl rt_12 hS ?_
  refine g_iload_n dX10_work_113 rfl ?_
  refine mg_zald dX10_work_114 (by first | exact rfl | assumption) rfl rfl (by omega) hS ?_
  refine g_if_eq 134 dX10_work_115 (by decide) (fun _ => ?_) (fun q => absurd (h0) q)
  refine g_aload_n dX10_work_134 rfl ?_
  refine g_iconstV (v := 3) dX10_work_135 (by decide) ?_
  refine g_callV (d1 := d - 1) (As := [_]) 9 dX10_work_136 vX10_191 (by omega) (mg_ob hS) rfl rfl (Nat.le_of_ble_eq_true rfl) ?_
  refine m_fail (by omega) hS hn hn2 ?_
  refine g_goto 207 dX10_work_139 (by decide) ?_
  refine g_vret dX10_work_207 rfl ?_
  exact k
set_option maxHeartbeats 4000000 in
set_option maxRecDepth 20000 in
theorem m_workCount {g : GE} {d : Nat} {w : GW} {σ : MW} {Q : Option Value → GW → Prop} (hS : SK g w) {p a b : Nat} (hp : p < 160) (ha : mA σ 1 p = nI a) (hw : mA σ 0 p = 15) (hb : mA σ 2 p = nI b) (hb2 : b < 8) (ha2 : a < 18) (h0 : ¬ mA σ 12 a = 0) (k : Q none (put g (sD σ 11 b (FP.i2d (mA σ 13 a))) w)) : gM g d mX10_work [.ref (eB g + 70), .int (nI p)] (put g σ w) Q := by
  refine gM.of (by decide) (Nat.le_of_ble_eq_true rfl) ?_
  refine g_aload_n dX10_work_0 rfl ?_
  refine mg_getA 1 1 dX10_work_1 fX10_13 rfl rt_1 hS ?_
  refine g_iload_n dX10_work_4 rfl ?_
  refine mg_iald dX10_work_5 rfl rfl rfl (by omega) hS ?_
  rw [ha]
  refine g_istore_n dX10_work_6 (by decide) rfl ?_
  refine g_aload_n dX10_work_7 rfl ?_
  refine mg_getA 2 2 dX10_work_8 fX10_16 rfl rt_2 hS ?_
  refine g_iload_n dX10_work_11 rfl ?_
  refine mg_iald dX10_work_12 rfl rfl rfl (by omega) hS ?_
  rw [hb]
  refine g_istore_n dX10_work_13 (by decide) rfl ?_
  refine g_aload_n dX10_work_14 rfl ?_
  refine mg_getA 0 0 dX10_work_15 fX10_7 rfl rt_0 hS ?_
  refine g_iload_n dX10_work_18 rfl ?_
  refine mg_iald dX10_work_19 (by first | exact rfl | assumption) rfl rfl (by omega) hS ?_
  refine g_tableIn (off := 89) 109 dX10_work_20 (by rw [hw]; decide) (by rw [hw]; decide) (by rw [hw]; rfl) (by decide) ?_
  refine g_aload_n dX10_work_109 rfl ?_
  refine mg_getA 13 12 dX10_work_110 fX10_47 rfl rt_12 hS ?_
  refine g_iload_n dX10_work_113 rfl ?_
  refine mg_zald dX10_work_114 (by first | exact rfl | assumption) rfl rfl (by omega) hS ?_
  refine g_if_eq 134 dX10_work_115 (by decide) (fun q => absurd q (h0)) (fun _ => ?_)
  refine g_aload_n dX10_work_118 rfl ?_
  refine mg_getA 12 11 dX10_work_119 fX10_43 rfl rt_11 hS ?_
  refine g_iload_n dX10_work_122 rfl ?_
  refine g_aload_n dX10_work_123 rfl ?_
  refine mg_getA 14 13 dX10_work_124 fX10_51 rfl rt_13 hS ?_
  refine g_iload_n dX10_work_127 rfl ?_
  refine mg_iald dX10_work_128 (by first | exact rfl | assumption) rfl rfl (by omega) hS ?_
  refine g_i2d dX10_work_129 ?_
  refine mg_dast dX10_work_130 (by first | exact rfl | assumption) rfl rfl (by omega) hS ?_
  refine g_goto 207 dX10_work_131 (by decide) ?_
  refine g_vret dX10_work_207 rfl ?_
  exact k
def dEight : UInt64 := 4620693217682128896
theorem DF_eight : DF dEight := ⟨false, 2 ^ 52, -49, by decide +kernel⟩
theorem eight_nz : ¬ FP.Core.DZero dEight := fun z => absurd ((FP.Core.zero_bits2 _).mp z) (by decide)
theorem nn_eighth (x : Int32) : vf_n64 (FP.ddiv (FP.i2d x) dEight) := nn_div (DF_i2d x) DF_eight (fun q => eight_nz q.2)
set_option maxHeartbeats 4000000 in
set_option maxRecDepth 20000 in
theorem m_workSet {g : GE} {d : Nat} {w : GW} {σ : MW} {Q : Option Value → GW → Prop} (hS : SK g w) {p a : Nat} (hp : p < 160) (ha : mA σ 1 p = nI a) (hw : mA σ 0 p = 19) (ha2 : a < 8) (k : Q none (put g (sD σ 11 a (FP.ddiv (FP.i2d (mA σ 2 p)) dEight)) w)) : gM g d mX10_work [.ref (eB g + 70), .int (nI p)] (put g σ w) Q := by
  refine gM.of (by decide) (Nat.le_of_ble_eq_true rfl) ?_
  refine g_aload_n dX10_work_0 rfl ?_
  refine mg_getA 1 1 dX10_work_1 fX10_13 rfl rt_1 hS ?_
  refine g_iload_n dX10_work_4 rfl ?_
  refine mg_iald dX10_work_5 rfl rfl rfl (by omega) hS ?_
  rw [ha]
  refine g_istore_n dX10_work_6 (by decide) rfl ?_
  refine g_aload_n dX10_work_7 rfl ?_
  refine mg_getA 2 2 dX10_work_8 fX10_16 rfl rt_2 hS ?_
  refine g_iload_n dX10_work_11 rfl ?_
  refine mg_iald dX10_work_12 (by first | exact rfl | assumption) rfl rfl (by omega) hS ?_
  refine g_istore_n dX10_work_13 (by decide) rfl ?_
  refine g_aload_n dX10_work_14 rfl ?_
  refine mg_getA 0 0 dX10_work_15 fX10_7 rfl rt_0 hS ?_
  refine g_iload_n dX10_work_18 rfl ?_
  refine mg_iald dX10_work_19 (by first | exact rfl | assumption) rfl rfl (by omega) hS ?_
  refine g_tableIn (off := 122) 142 dX10_work_20 (by rw [hw]; decide) (by rw [hw]; decide) (by rw [hw]; rfl) (by decide) ?_
  refine g_aload_n dX10_work_142 rfl ?_
  refine mg_getA 12 11 dX10_work_143 fX10_43 rfl rt_11 hS ?_
  refine g_iload_n dX10_work_146 rfl ?_
  refine g_iload_n dX10_work_147 rfl ?_
  refine g_i2d dX10_work_148 ?_
  refine g_ldc2d dX10_work_149 qX10_255 ?_
  refine g_ddiv dX10_work_152 (nn_eighth _) ?_
  refine mg_dast dX10_work_153 (by first | exact rfl | assumption) rfl rfl (by omega) hS ?_
  refine g_goto 207 dX10_work_154 (by decide) ?_
  refine g_vret dX10_work_207 rfl ?_
  exact k
set_option maxHeartbeats 4000000 in
set_option maxRecDepth 20000 in
theorem m_workFine {g : GE} {d : Nat} {w : GW} {σ : MW} {Q : Option Value → GW → Prop} (hd : 1 ≤ d) (hS : SK g w) {p a : Nat} (hp : p < 160) (ha : mA σ 1 p = nI a) (hw : mA σ 0 p = 20) (k : gM g (d - 1) mX10_fine [.ref (eB g + 70), .int (nI p)] (put g σ w) (fun r w1 => r = none ∧ Q none w1)) : gM g d mX10_work [.ref (eB g + 70), .int (nI p)] (put g σ w) Q := by
  refine gM.of (by decide) (Nat.le_of_ble_eq_true rfl) ?_
  refine g_aload_n dX10_work_0 rfl ?_
  refine mg_getA 1 1 dX10_work_1 fX10_13 rfl rt_1 hS ?_
  refine g_iload_n dX10_work_4 rfl ?_
  refine mg_iald dX10_work_5 rfl rfl rfl (by omega) hS ?_
  rw [ha]
  refine g_istore_n dX10_work_6 (by decide) rfl ?_
  refine g_aload_n dX10_work_7 rfl ?_
  refine mg_getA 2 2 dX10_work_8 fX10_16 rfl rt_2 hS ?_
  refine g_iload_n dX10_work_11 rfl ?_
  refine mg_iald dX10_work_12 (by first | exact rfl | assumption) rfl rfl (by omega) hS ?_
  refine g_istore_n dX10_work_13 (by decide) rfl ?_
  refine g_aload_n dX10_work_14 rfl ?_
  refine mg_getA 0 0 dX10_work_15 fX10_7 rfl rt_0 hS ?_
  refine g_iload_n dX10_work_18 rfl ?_
  refine mg_iald dX10_work_19 (by first | exact rfl | assumption) rfl rfl (by omega) hS ?_
  refine g_tableIn (off := 137) 157 dX10_work_20 (by rw [hw]; decide) (by rw [hw]; decide) (by rw [hw]; rfl) (by decide) ?_
  refine g_aload_n dX10_work_157 rfl ?_
  refine g_iload_n dX10_work_158 rfl ?_
  refine g_callV (d1 := d - 1) (As := [_]) 9 dX10_work_159 vX10_257 (by omega) (mg_ob hS) rfl rfl (Nat.le_of_ble_eq_true rfl) ?_
  refine gM.imp k (fun r w1 _ _ hq => ?_)
  obtain ⟨rfl, hq⟩ := hq
  refine g_goto 207 dX10_work_162 (by decide) ?_
  refine g_vret dX10_work_207 rfl ?_
  exact hq
set_option maxHeartbeats 4000000 in
set_option maxRecDepth 20000 in
theorem m_workRough {g : GE} {d : Nat} {w : GW} {σ : MW} {Q : Option Value → GW → Prop} (hd : 1 ≤ d) (hS : SK g w) {p a : Nat} (hp : p < 160) (ha : mA σ 1 p = nI a) (hw : mA σ 0 p = 21) (k : gM g (d - 1) mX10_rough [.ref (eB g + 70), .int (nI p)] (put g σ w) (fun r w1 => r = none ∧ Q none w1)) : gM g d mX10_work [.ref (eB g + 70), .int (nI p)] (put g σ w) Q := by
  refine gM.of (by decide) (Nat.le_of_ble_eq_true rfl) ?_
  refine g_aload_n dX10_work_0 rfl ?_
  refine mg_getA 1 1 dX10_work_1 fX10_13 rfl rt_1 hS ?_
  refine g_iload_n dX10_work_4 rfl ?_
  refine mg_iald dX10_work_5 rfl rfl rfl (by omega) hS ?_
  rw [ha]
  refine g_istore_n dX10_work_6 (by decide) rfl ?_
  refine g_aload_n dX10_work_7 rfl ?_
  refine mg_getA 2 2 dX10_work_8 fX10_16 rfl rt_2 hS ?_
  refine g_iload_n dX10_work_11 rfl ?_
  refine mg_iald dX10_work_12 (by first | exact rfl | assumption) rfl rfl (by omega) hS ?_
  refine g_istore_n dX10_work_13 (by decide) rfl ?_
  refine g_aload_n dX10_work_14 rfl ?_
  refine mg_getA 0 0 dX10_work_15 fX10_7 rfl rt_0 hS ?_
  refine g_iload_n dX10_work_18 rfl ?_
  refine mg_iald dX10_work_19 (by first | exact rfl | assumption) rfl rfl (by omega) hS ?_
  refine g_tableIn (off := 145) 165 dX10_work_20 (by rw [hw]; decide) (by rw [hw]; decide) (by rw [hw]; rfl) (by decide) ?_
  refine g_aload_n dX10_work_165 rfl ?_
  refine g_iload_n dX10_work_166 rfl ?_
  refine g_callV (d1 := d - 1) (As := [_]) 9 dX10_work_167 vX10_260 (by omega) (mg_ob hS) rfl rfl (Nat.le_of_ble_eq_true rfl) ?_
  refine gM.imp k (fun r w1 _ _ hq => ?_)
  obtain ⟨rfl, hq⟩ := hq
  refine g_goto 207 dX10_work_170 (by decide) ?_
  refine g_vret dX10_work_207 rfl ?_
  exact hq
set_option maxHeartbeats 4000000 in
set_option maxRecDepth 20000 in
theorem m_workWhole {g : GE} {d : Nat} {w : GW} {σ : MW} {Q : Option Value → GW → Prop} (hd : 1 ≤ d) (hS : SK g w) {p a : Nat} (hp : p < 160) (ha : mA σ 1 p = nI a) (hw : mA σ 0 p = 22) (k : gM g (d - 1) mX10_whole [.ref (eB g + 70), .int (nI p)] (put g σ w) (fun r w1 => r = none ∧ Q none w1)) : gM g d mX10_work [.ref (eB g + 70), .int (nI p)] (put g σ w) Q := by
  refine gM.of (by decide) (Nat.le_of_ble_eq_true rfl) ?_
  refine g_aload_n dX10_work_0 rfl ?_
  refine mg_getA 1 1 dX10_work_1 fX10_13 rfl rt_1 hS ?_
  refine g_iload_n dX10_work_4 rfl ?_
  refine mg_iald dX10_work_5 rfl rfl rfl (by omega) hS ?_
  rw [ha]
  refine g_istore_n dX10_work_6 (by decide) rfl ?_
  refine g_aload_n dX10_work_7 rfl ?_
  refine mg_getA 2 2 dX10_work_8 fX10_16 rfl rt_2 hS ?_
  refine g_iload_n dX10_work_11 rfl ?_
  refine mg_iald dX10_work_12 (by first | exact rfl | assumption) rfl rfl (by omega) hS ?_
  refine g_istore_n dX10_work_13 (by decide) rfl ?_
  refine g_aload_n dX10_work_14 rfl ?_
  refine mg_getA 0 0 dX10_work_15 fX10_7 rfl rt_0 hS ?_
  refine g_iload_n dX10_work_18 rfl ?_
  refine mg_iald dX10_work_19 (by first | exact rfl | assumption) rfl rfl (by omega) hS ?_
  refine g_tableIn (off := 153) 173 dX10_work_20 (by rw [hw]; decide) (by rw [hw]; decide) (by rw [hw]; rfl) (by decide) ?_
  refine g_aload_n dX10_work_173 rfl ?_
  refine g_iload_n dX10_work_174 rfl ?_
  refine g_callV (d1 := d - 1) (As := [_]) 9 dX10_work_175 vX10_263 (by omega) (mg_ob hS) rfl rfl (Nat.le_of_ble_eq_true rfl) ?_
  refine gM.imp k (fun r w1 _ _ hq => ?_)
  obtain ⟨rfl, hq⟩ := hq
  refine g_goto 207 dX10_work_178 (by decide) ?_
  refine g_vret dX10_work_207 rfl ?_
  exact hq
set_option maxHeartbeats 4000000 in
set_option maxRecDepth 20000 in
theorem m_workWide {g : GE} {d : Nat} {w : GW} {σ : MW} {Q : Option Value → GW → Prop} (hd : 1 ≤ d) (hS : SK g w) {p a : Nat} (hp : p < 160) (ha : mA σ 1 p = nI a) (hw : mA σ 0 p = 23) (k : gM g (d - 1) mX10_wide [.ref (eB g + 70), .int (nI p)] (put g σ w) (fun r w1 => r = none ∧ Q none w1)) : gM g d mX10_work [.ref (eB g + 70), .int (nI p)] (put g σ w) Q := by
  refine gM.of (by decide) (Nat.le_of_ble_eq_true rfl) ?_
  refine g_aload_n dX10_work_0 rfl ?_
  refine mg_getA 1 1 dX10_work_1 fX10_13 rfl rt_1 hS ?_
  refine g_iload_n dX10_work_4 rfl ?_
  refine mg_iald dX10_work_5 rfl rfl rfl (by omega) hS ?_
  rw [ha]
  refine g_istore_n dX10_work_6 (by decide) rfl ?_
  refine g_aload_n dX10_work_7 rfl ?_
  refine mg_getA 2 2 dX10_work_8 fX10_16 rfl rt_2 hS ?_
  refine g_iload_n dX10_work_11 rfl ?_
  refine mg_iald dX10_work_12 (by first | exact rfl | assumption) rfl rfl (by omega) hS ?_
  refine g_istore_n dX10_work_13 (by decide) rfl ?_
  refine g_aload_n dX10_work_14 rfl ?_
  refine mg_getA 0 0 dX10_work_15 fX10_7 rfl rt_0 hS ?_
  refine g_iload_n dX10_work_18 rfl ?_
  refine mg_iald dX10_work_19 (by first | exact rfl | assumption) rfl rfl (by omega) hS ?_
  refine g_tableIn (off := 161) 181 dX10_work_20 (by rw [hw]; decide) (by rw [hw]; decide) (by rw [hw]; rfl) (by decide) ?_
  refine g_aload_n dX10_work_181 rfl ?_
  refine g_iload_n dX10_work_182 rfl ?_
  refine g_callV (d1 := d - 1) (As := [_]) 9 dX10_work_183 vX10_266 (by omega) (mg_ob hS) rfl rfl (Nat.le_of_ble_eq_true rfl) ?_
  refine gM.imp k (fun r w1 _ _ hq => ?_)
  obtain ⟨rfl, hq⟩ := hq
  refine g_goto 207 dX10_work_186 (by decide) ?_
  refine g_vret dX10_work_207 rfl ?_
  exact hq
set_option maxHeartbeats 4000000 in
set_option maxRecDepth 20000 in
theorem m_workNote {g : GE} {d : Nat} {w : GW} {σ : MW} {Q : Option Value → GW → Prop} (hd : 1 ≤ d) (hS : SK g w) {p a : Nat} (hp : p < 160) (ha : mA σ 1 p = nI a) (hw : mA σ 0 p = 24) (ha2 : a < 8) {n : Nat} (hn : mI σ 38 = nI n) (hn2 : n < 1000) (k : Q none (put g (sI (sD σ 26 n (mD σ 11 a)) 38 (nI (n + 1))) w)) : gM g d mX10_work [.ref (eB g + 70), .int (nI p)] (put g σ w) Q := by
  refine gM.of (by decide) (Nat.le_of_ble_eq_true rfl) ?_
  refine g_aload_n dX10_work_0 rfl ?_
  refine mg_getA 1 1 dX10_work_1 fX10_13 rfl rt_1 hS ?_
  refine g_iload_n dX10_work_4 rfl ?_
  refine mg_iald dX10_work_5 rfl rfl rfl (by omega) hS ?_
  rw [ha]
  refine g_istore_n dX10_work_6 (by decide) rfl ?_
  refine g_aload_n dX10_work_7 rfl ?_
  refine mg_getA 2 2 dX10_work_8 fX10_16 rfl rt_2 hS ?_
  refine g_iload_n dX10_work_11 rfl ?_
  refine mg_iald dX10_work_12 (by first | exact rfl | assumption) rfl rfl (by omega) hS ?_
  refine g_istore_n dX10_work_13 (by decide) rfl ?_
  refine g_aload_n dX10_work_14 rfl ?_
  refine mg_getA 0 0 dX10_work_15 fX10_7 rfl rt_0 hS ?_
  refine g_iload_n dX10_work_18 rfl ?_
  refine mg_iald dX10_work_19 (by first | exact rfl | assumption) rfl rfl (by omega) hS ?_
  refine g_tableIn (off := 169) 189 dX10_work_20 (by rw [hw]; decide) (by rw [hw]; decide) (by rw [hw]; rfl) (by decide) ?_
  refine g_aload_n dX10_work_189 rfl ?_
  refine g_aload_n dX10_work_190 rfl ?_
  refine mg_getA 12 11 dX10_work_191 fX10_43 rfl rt_11 hS ?_
  refine g_iload_n dX10_work_194 rfl ?_
  refine mg_dald dX10_work_195 (by first | exact rfl | assumption) rfl rfl (by omega) hS ?_
  refine g_callV (d1 := d - 1) (As := [_]) 9 dX10_work_196 vX10_225 (by omega) (mg_ob hS) rfl rfl (Nat.le_of_ble_eq_true rfl) ?_
  refine m_note hS hn hn2 ?_
  refine g_goto 207 dX10_work_199 (by decide) ?_
  refine g_vret dX10_work_207 rfl ?_
  exact k
set_option maxHeartbeats 4000000 in
set_option maxRecDepth 20000 in
theorem m_workGet {g : GE} {d : Nat} {w : GW} {σ : MW} {Q : Option Value → GW → Prop} (hd : 1 ≤ d) (hS : SK g w) {p a : Nat} (hp : p < 160) (ha : mA σ 1 p = nI a) (hw : mA σ 0 p = 16) (k : gM g (d - 1) mX10_onRow [.ref (eB g + 70), .int (nI p)] (put g σ w) (fun r w1 => r = none ∧ Q none w1)) : gM g d mX10_work [.ref (eB g + 70), .int (nI p)] (put g σ w) Q := by
  refine gM.of (by decide) (Nat.le_of_ble_eq_true rfl) ?_
  refine g_aload_n dX10_work_0 rfl ?_
  refine mg_getA 1 1 dX10_work_1 fX10_13 rfl rt_1 hS ?_
  refine g_iload_n dX10_work_4 rfl ?_
  refine mg_iald dX10_work_5 rfl rfl rfl (by omega) hS ?_
  rw [ha]
  refine g_istore_n dX10_work_6 (by decide) rfl ?_
  refine g_aload_n dX10_work_7 rfl ?_
  refine mg_getA 2 2 dX10_work_8 fX10_16 rfl rt_2 hS ?_
  refine g_iload_n dX10_work_11 rfl ?_
  refine mg_iald dX10_work_12 (by first | exact rfl | assumption) rfl rfl (by omega) hS ?_
  refine g_istore_n dX10_work_13 (by decide) rfl ?_
  refine g_aload_n dX10_work_14 rfl ?_
  refine mg_getA 0 0 dX10_work_15 fX10_7 rfl rt_0 hS ?_
  refine g_iload_n dX10_work_18 rfl ?_
  refine mg_iald dX10_work_19 (by first | exact rfl | assumption) rfl rfl (by omega) hS ?_
  refine g_tableIn (off := 182) 202 dX10_work_20 (by rw [hw]; decide) (by rw [hw]; decide) (by rw [hw]; rfl) (by decide) ?_
  refine g_aload_n dX10_work_202 rfl ?_
  refine g_iload_n dX10_work_203 rfl ?_
  refine g_callV (d1 := d - 1) (As := [_]) 9 dX10_work_204 vX10_269 (by omega) (mg_ob hS) rfl rfl (Nat.le_of_ble_eq_true rfl) ?_
  refine gM.imp k (fun r w1 _ _ hq => ?_)
  obtain ⟨rfl, hq⟩ := hq
  refine g_vret dX10_work_207 rfl ?_
  exact hq
set_option maxHeartbeats 4000000 in
set_option maxRecDepth 20000 in
theorem m_workPut {g : GE} {d : Nat} {w : GW} {σ : MW} {Q : Option Value → GW → Prop} (hd : 1 ≤ d) (hS : SK g w) {p a : Nat} (hp : p < 160) (ha : mA σ 1 p = nI a) (hw : mA σ 0 p = 17) (k : gM g (d - 1) mX10_onRow [.ref (eB g + 70), .int (nI p)] (put g σ w) (fun r w1 => r = none ∧ Q none w1)) : gM g d mX10_work [.ref (eB g + 70), .int (nI p)] (put g σ w) Q := by
  refine gM.of (by decide) (Nat.le_of_ble_eq_true rfl) ?_
  refine g_aload_n dX10_work_0 rfl ?_
  refine mg_getA 1 1 dX10_work_1 fX10_13 rfl rt_1 hS ?_
  refine g_iload_n dX10_work_4 rfl ?_
  refine mg_iald dX10_work_5 rfl rfl rfl (by omega) hS ?_
  rw [ha]
  refine g_istore_n dX10_work_6 (by decide) rfl ?_
  refine g_aload_n dX10_work_7 rfl ?_
  refine mg_getA 2 2 dX10_work_8 fX10_16 rfl rt_2 hS ?_
  refine g_iload_n dX10_work_11 rfl ?_
  refine mg_iald dX10_work_12 (by first | exact rfl | assumption) rfl rfl (by omega) hS ?_
  refine g_istore_n dX10_work_13 (by decide) rfl ?_
  refine g_aload_n dX10_work_14 rfl ?_
  refine mg_getA 0 0 dX10_work_15 fX10_7 rfl rt_0 hS ?_
  refine g_iload_n dX10_work_18 rfl ?_
  refine mg_iald dX10_work_19 (by first | exact rfl | assumption) rfl rfl (by omega) hS ?_
  refine g_tableIn (off := 182) 202 dX10_work_20 (by rw [hw]; decide) (by rw [hw]; decide) (by rw [hw]; rfl) (by decide) ?_
  refine g_aload_n dX10_work_202 rfl ?_
  refine g_iload_n dX10_work_203 rfl ?_
  refine g_callV (d1 := d - 1) (As := [_]) 9 dX10_work_204 vX10_269 (by omega) (mg_ob hS) rfl rfl (Nat.le_of_ble_eq_true rfl) ?_
  refine gM.imp k (fun r w1 _ _ hq => ?_)
  obtain ⟨rfl, hq⟩ := hq
  refine g_vret dX10_work_207 rfl ?_
  exact hq
set_option maxHeartbeats 4000000 in
set_option maxRecDepth 20000 in
theorem m_workFit {g : GE} {d : Nat} {w : GW} {σ : MW} {Q : Option Value → GW → Prop} (hd : 1 ≤ d) (hS : SK g w) {p a : Nat} (hp : p < 160) (ha : mA σ 1 p = nI a) (hw : mA σ 0 p = 18) (k : gM g (d - 1) mX10_onRow [.ref (eB g + 70), .int (nI p)] (put g σ w) (fun r w1 => r = none ∧ Q none w1)) : gM g d mX10_work [.ref (eB g + 70), .int (nI p)] (put g σ w) Q := by
  refine gM.of (by decide) (Nat.le_of_ble_eq_true rfl) ?_
  refine g_aload_n dX10_work_0 rfl ?_
  refine mg_getA 1 1 dX10_work_1 fX10_13 rfl rt_1 hS ?_
  refine g_iload_n dX10_work_4 rfl ?_
  refine mg_iald dX10_work_5 rfl rfl rfl (by omega) hS ?_
  rw [ha]
  refine g_istore_n dX10_work_6 (by decide) rfl ?_
  refine g_aload_n dX10_work_7 rfl ?_
  refine mg_getA 2 2 dX10_work_8 fX10_16 rfl rt_2 hS ?_
  refine g_iload_n dX10_work_11 rfl ?_
  refine mg_iald dX10_work_12 (by first | exact rfl | assumption) rfl rfl (by omega) hS ?_
  refine g_istore_n dX10_work_13 (by decide) rfl ?_
  refine g_aload_n dX10_work_14 rfl ?_
  refine mg_getA 0 0 dX10_work_15 fX10_7 rfl rt_0 hS ?_
  refine g_iload_n dX10_work_18 rfl ?_
  refine mg_iald dX10_work_19 (by first | exact rfl | assumption) rfl rfl (by omega) hS ?_
  refine g_tableIn (off := 182) 202 dX10_work_20 (by rw [hw]; decide) (by rw [hw]; decide) (by rw [hw]; rfl) (by decide) ?_
  refine g_aload_n dX10_work_202 rfl ?_
  refine g_iload_n dX10_work_203 rfl ?_
  refine g_callV (d1 := d - 1) (As := [_]) 9 dX10_work_204 vX10_269 (by omega) (mg_ob hS) rfl rfl (Nat.le_of_ble_eq_true rfl) ?_
  refine gM.imp k (fun r w1 _ _ hq => ?_)
  obtain ⟨rfl, hq⟩ := hq
  refine g_vret dX10_work_207 rfl ?_
  exact hq
