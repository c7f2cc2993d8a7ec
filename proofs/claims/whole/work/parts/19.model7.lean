/-- IF: is it so? -/
def fSo (b : Int32) (x y : UInt64) : Int32 := if b = 0 then (if FP.dcmp x y = some .lt then 1 else 0) else if b = 1 then (if FP.dcmp x y = some .eq then 1 else 0) else if b = 2 then (if FP.dcmp x y = some .eq then 0 else 1) else (if FP.dcmp x y = some .lt then 0 else 1)
theorem fSo_01 (b : Int32) (x y : UInt64) : fSo b x y = 0 ∨ fSo b x y = 1 := by
  unfold fSo
  repeat (first | (exact Or.inl rfl) | (exact Or.inr rfl) | split)
set_option maxHeartbeats 4000000 in
set_option maxRecDepth 20000 in
theorem m_isSo {g : GE} {d : Nat} {w : GW} {σ : MW} {Q : Option Value → GW → Prop} (hS : SK g w) {p a c : Nat} (hp : p < 160) (ha : mA σ 1 p = nI a) (ha2 : a < 8) (hc : mA σ 3 p = nI c) (hc2 : c < 8) (hnn : FP.dcmp (mD σ 11 a) (mD σ 11 c) ≠ none) (k : Q (some (.int (fSo (mA σ 2 p) (mD σ 11 a) (mD σ 11 c)))) (put g σ w)) : gM g d mX10_isSo [.ref (eB g + 70), .int (nI p)] (put g σ w) Q := by
  refine gM.of (by decide) (Nat.le_of_ble_eq_true rfl) ?_
  refine g_aload_n dX10_isSo_0 rfl ?_
  refine mg_getA 12 11 dX10_isSo_1 fX10_43 rfl rt_11 hS ?_
  refine g_aload_n dX10_isSo_4 rfl ?_
  refine mg_getA 1 1 dX10_isSo_5 fX10_13 rfl rt_1 hS ?_
  refine g_iload_n dX10_isSo_8 rfl ?_
  refine mg_iald dX10_isSo_9 (by first | exact rfl | assumption) rfl rfl (by omega) hS ?_
  refine mg_dald dX10_isSo_10 (by first | exact rfl | assumption) rfl rfl (by omega) hS ?_
  refine g_dstore_n dX10_isSo_11 (by decide) rfl ?_
  refine g_aload_n dX10_isSo_12 rfl ?_
  refine mg_getA 12 11 dX10_isSo_13 fX10_43 rfl rt_11 hS ?_
  refine g_aload_n dX10_isSo_16 rfl ?_
  refine mg_getA 3 3 dX10_isSo_17 fX10_19 rfl rt_3 hS ?_
  refine g_iload_n dX10_isSo_20 rfl ?_
  refine mg_iald dX10_isSo_21 (by first | exact rfl | assumption) rfl rfl (by omega) hS ?_
  refine mg_dald dX10_isSo_22 (by first | exact rfl | assumption) rfl rfl (by omega) hS ?_
  refine g_dstore dX10_isSo_23 (by decide) rfl ?_
  refine g_aload_n dX10_isSo_25 rfl ?_
  refine mg_getA 2 2 dX10_isSo_26 fX10_16 rfl rt_2 hS ?_
  refine g_iload_n dX10_isSo_29 rfl ?_
  refine mg_iald dX10_isSo_30 (by first | exact rfl | assumption) rfl rfl (by omega) hS ?_
  refine g_tsw dX10_isSo_31 [56, 69, 82] 95 (by decide) (by decide) (by decide) (by decide) (by decide) ?_ (fun c1 => ?_)
  · simp only [tswK]
    refine ⟨fun c1 => ?_, fun c1 => ?_, fun c1 => ?_, trivial⟩
    · replace c1 := c1.trans (by decide : _ = (0 : Int32))
      refine g_dload_n dX10_isSo_56 rfl ?_
      refine g_dload dX10_isSo_57 rfl ?_
      refine g_dcmp dX10_isSo_59 ?_
      refine g_if_ge 67 dX10_isSo_60 (by decide) (fun c2 => ?_) (fun c2 => ?_)
      · refine g_iconstV (v := 0) dX10_isSo_67 (by decide) ?_
        refine g_zret dX10_isSo_68 rfl rfl ?_
        simp only [cv_gtl, cv_gtg, cv_lel, cv_gel, cv_geg, cv_ltl, cv_ltg, cv_leg, cv_eql, cv_eqg, Classical.not_not, hnn, or_false] at c2
        simpa [fSo, c1, c2] using k
      · refine g_iconstV (v := 1) dX10_isSo_63 (by decide) ?_
        refine g_goto 68 dX10_isSo_64 (by decide) ?_
        refine g_zret dX10_isSo_68 rfl rfl ?_
        simp only [cv_gtl, cv_gtg, cv_lel, cv_gel, cv_geg, cv_ltl, cv_ltg, cv_leg, cv_eql, cv_eqg, Classical.not_not, hnn, or_false] at c2
        simpa [fSo, c1, c2] using k
    · replace c1 := c1.trans (by decide : _ = (1 : Int32))
      refine g_dload_n dX10_isSo_69 rfl ?_
      refine g_dload dX10_isSo_70 rfl ?_
      refine g_dcmp dX10_isSo_72 ?_
      refine g_if_ne 80 dX10_isSo_73 (by decide) (fun c3 => ?_) (fun c3 => ?_)
      · refine g_iconstV (v := 0) dX10_isSo_80 (by decide) ?_
        refine g_zret dX10_isSo_81 rfl rfl ?_
        simp only [cv_gtl, cv_gtg, cv_lel, cv_gel, cv_geg, cv_ltl, cv_ltg, cv_leg, cv_eql, cv_eqg, Classical.not_not, hnn, or_false] at c3
        simpa [fSo, c1, c3] using k
      · refine g_iconstV (v := 1) dX10_isSo_76 (by decide) ?_
        refine g_goto 81 dX10_isSo_77 (by decide) ?_
        refine g_zret dX10_isSo_81 rfl rfl ?_
        simp only [cv_gtl, cv_gtg, cv_lel, cv_gel, cv_geg, cv_ltl, cv_ltg, cv_leg, cv_eql, cv_eqg, Classical.not_not, hnn, or_false] at c3
        simpa [fSo, c1, c3] using k
    · replace c1 := c1.trans (by decide : _ = (2 : Int32))
      refine g_dload_n dX10_isSo_82 rfl ?_
      refine g_dload dX10_isSo_83 rfl ?_
      refine g_dcmp dX10_isSo_85 ?_
      refine g_if_eq 93 dX10_isSo_86 (by decide) (fun c4 => ?_) (fun c4 => ?_)
      · refine g_iconstV (v := 0) dX10_isSo_93 (by decide) ?_
        refine g_zret dX10_isSo_94 rfl rfl ?_
        simp only [cv_gtl, cv_gtg, cv_lel, cv_gel, cv_geg, cv_ltl, cv_ltg, cv_leg, cv_eql, cv_eqg, Classical.not_not, hnn, or_false] at c4
        simpa [fSo, c1, c4] using k
      · refine g_iconstV (v := 1) dX10_isSo_89 (by decide) ?_
        refine g_goto 94 dX10_isSo_90 (by decide) ?_
        refine g_zret dX10_isSo_94 rfl rfl ?_
        simp only [cv_gtl, cv_gtg, cv_lel, cv_gel, cv_geg, cv_ltl, cv_ltg, cv_leg, cv_eql, cv_eqg, Classical.not_not, hnn, or_false] at c4
        simpa [fSo, c1, c4] using k
  · have c1n0 := tsw_ne c1 0 (by decide)
    have c1n1 := tsw_ne c1 1 (by decide)
    have c1n2 := tsw_ne c1 2 (by decide)
    refine g_dload_n dX10_isSo_95 rfl ?_
    refine g_dload dX10_isSo_96 rfl ?_
    refine g_dcmp dX10_isSo_98 ?_
    refine g_if_lt 106 dX10_isSo_99 (by decide) (fun c5 => ?_) (fun c5 => ?_)
    · refine g_iconstV (v := 0) dX10_isSo_106 (by decide) ?_
      refine g_zret dX10_isSo_107 rfl rfl ?_
      simp only [cv_gtl, cv_gtg, cv_lel, cv_gel, cv_geg, cv_ltl, cv_ltg, cv_leg, cv_eql, cv_eqg, Classical.not_not, hnn, or_false] at c5
      simpa [fSo, c1n0, c1n1, c1n2, c5] using k
    · refine g_iconstV (v := 1) dX10_isSo_102 (by decide) ?_
      refine g_goto 107 dX10_isSo_103 (by decide) ?_
      refine g_zret dX10_isSo_107 rfl rfl ?_
      simp only [cv_gtl, cv_gtg, cv_lel, cv_gel, cv_geg, cv_ltl, cv_ltg, cv_leg, cv_eql, cv_eqg, Classical.not_not, hnn, or_false] at c5
      simpa [fSo, c1n0, c1n1, c1n2, c5] using k
def mTry (σ : MW) (o p : Nat) : MW := sI (mPush σ o 3 (nI p) 0) 30 (nI (p + 1))
set_option maxHeartbeats 4000000 in
set_option maxRecDepth 20000 in
theorem m_ordTry {g : GE} {d : Nat} {w : GW} {σ : MW} {Q : Option Value → GW → Prop} (hd : 1 ≤ d) (hS : SK g w) {p : Nat} (hp : p < 160) (hw : mA σ 0 p = 1) {o : Nat} (hat : mI σ 30 = nI p) (ho : mI σ 29 = nI o) (ho2 : o < 60) (k : Q none (put g (mTry σ o p) w)) : gM g d mX10_order [.ref (eB g + 70), .int (nI p)] (put g σ w) Q := by
  refine gM.of (by decide) (Nat.le_of_ble_eq_true rfl) ?_
  refine g_aload_n dX10_order_0 rfl ?_
  refine mg_getA 0 0 dX10_order_1 fX10_7 rfl rt_0 hS ?_
  refine g_iload_n dX10_order_4 rfl ?_
  refine mg_iald dX10_order_5 (by first | exact rfl | assumption) rfl rfl (by omega) hS ?_
  refine g_tableIn (off := 58) 64 dX10_order_6 (by rw [hw]; decide) (by rw [hw]; decide) (by rw [hw]; rfl) (by decide) ?_
  refine g_aload_n dX10_order_64 rfl ?_
  refine g_iconstV (v := 3) dX10_order_65 (by decide) ?_
  refine g_iload_n dX10_order_66 rfl ?_
  refine g_iconstV (v := 0) dX10_order_67 (by decide) ?_
  refine g_callV (d1 := d - 1) (As := [_, _, _]) 9 dX10_order_68 vX10_159 (by omega) (mg_ob hS) rfl rfl (Nat.le_of_ble_eq_true rfl) ?_
  refine m_push hS ho ho2 ?_
  refine g_aload_n dX10_order_71 rfl ?_
  refine g_dup dX10_order_72 rfl ?_
  refine mg_getI 30 dX10_order_73 fX10_141 rfl (by decide) hS ?_
  refine g_iconstV (v := 1) dX10_order_76 (by decide) ?_
  refine g_iadd dX10_order_77 ?_
  refine mg_putI 30 dX10_order_78 fX10_141 rfl (by decide) hS ?_
  refine g_goto 216 dX10_order_81 (by decide) ?_
  refine g_vret dX10_order_216 rfl ?_
  have e1 : mI σ 30 + 1 = nI (p + 1) := by rw [hat]; exact nI_1 p
  exact e1 ▸ k
set_option maxHeartbeats 4000000 in
set_option maxRecDepth 20000 in
theorem m_ordLoop {g : GE} {d : Nat} {w : GW} {σ : MW} {Q : Option Value → GW → Prop} (hd : 1 ≤ d) (hS : SK g w) {p : Nat} (hp : p < 160) (hw : mA σ 0 p = 4) {o : Nat} (ho : mI σ 29 = nI o) (ho2 : o < 60) (k : gM g (d - 1) mX10_round [.ref (eB g + 70)] (put g (mPush σ o 1 (nI p) (mA σ 1 p)) w) (fun r w1 => r = none ∧ Q none w1)) : gM g d mX10_order [.ref (eB g + 70), .int (nI p)] (put g σ w) Q := by
  refine gM.of (by decide) (Nat.le_of_ble_eq_true rfl) ?_
  refine g_aload_n dX10_order_0 rfl ?_
  refine mg_getA 0 0 dX10_order_1 fX10_7 rfl rt_0 hS ?_
  refine g_iload_n dX10_order_4 rfl ?_
  refine mg_iald dX10_order_5 (by first | exact rfl | assumption) rfl rfl (by omega) hS ?_
  refine g_tableIn (off := 78) 84 dX10_order_6 (by rw [hw]; decide) (by rw [hw]; decide) (by rw [hw]; rfl) (by decide) ?_
  refine g_aload_n dX10_order_84 rfl ?_
  refine g_iconstV (v := 1) dX10_order_85 (by decide) ?_
  refine g_iload_n dX10_order_86 rfl ?_
  refine g_aload_n dX10_order_87 rfl ?_
  refine mg_getA 1 1 dX10_order_88 fX10_13 rfl rt_1 hS ?_
  refine g_iload_n dX10_order_91 rfl ?_
  refine mg_iald dX10_order_92 (by first | exact rfl | assumption) rfl rfl (by omega) hS ?_
  refine g_callV (d1 := d - 1) (As := [_, _, _]) 9 dX10_order_93 vX10_159 (by omega) (mg_ob hS) rfl rfl (Nat.le_of_ble_eq_true rfl) ?_
  refine m_push hS ho ho2 ?_
  refine g_aload_n dX10_order_96 rfl ?_
  refine g_callV (d1 := d - 1) (As := []) 9 dX10_order_97 vX10_195 (by omega) (mg_ob hS) rfl rfl (Nat.le_of_ble_eq_true rfl) ?_
  refine gM.imp k (fun r w1 _ _ hq => ?_)
  obtain ⟨rfl, hq⟩ := hq
  refine g_goto 216 dX10_order_100 (by decide) ?_
  refine g_vret dX10_order_216 rfl ?_
  exact hq
def mIfOn (σ : MW) (o p : Nat) : MW := sI (mPush σ o 2 (nI p) 0) 30 (nI (p + 1))
set_option maxHeartbeats 4000000 in
set_option maxRecDepth 20000 in
theorem m_ordIfOn {g : GE} {d : Nat} {w : GW} {σ : MW} {Q : Option Value → GW → Prop} (hd : 1 ≤ d) (hS : SK g w) {p : Nat} (hp : p < 160) (hw : mA σ 0 p = 11) {o : Nat} {a c : Nat} (ha : mA σ 1 p = nI a) (ha2 : a < 8) (hc : mA σ 3 p = nI c) (hc2 : c < 8) (hnn : FP.dcmp (mD σ 11 a) (mD σ 11 c) ≠ none) (hso : fSo (mA σ 2 p) (mD σ 11 a) (mD σ 11 c) = 1) (ho : mI σ 29 = nI o) (ho2 : o < 60) (k : Q none (put g (mIfOn σ o p) w)) : gM g d mX10_order [.ref (eB g + 70), .int (nI p)] (put g σ w) Q := by
  refine gM.of (by decide) (Nat.le_of_ble_eq_true rfl) ?_
  refine g_aload_n dX10_order_0 rfl ?_
  refine mg_getA 0 0 dX10_order_1 fX10_7 rfl rt_0 hS ?_
  refine g_iload_n dX10_order_4 rfl ?_
  refine mg_iald dX10_order_5 (by first | exact rfl | assumption) rfl rfl (by omega) hS ?_
  refine g_tableIn (off := 97) 103 dX10_order_6 (by rw [hw]; decide) (by rw [hw]; decide) (by rw [hw]; rfl) (by decide) ?_
  refine g_aload_n dX10_order_103 rfl ?_
  refine g_iload_n dX10_order_104 rfl ?_
  refine g_callV (d1 := d - 1) (As := [_]) 9 dX10_order_105 vX10_232 (by omega) (mg_ob hS) rfl rfl (Nat.le_of_ble_eq_true rfl) ?_
  refine m_isSo hS hp ha ha2 hc hc2 hnn ?_
  refine g_if_eq 118 dX10_order_108 (by decide) (fun q => absurd q (by rw [hso]; decide)) (fun _ => ?_)
  refine g_aload_n dX10_order_111 rfl ?_
  refine g_iconstV (v := 2) dX10_order_112 (by decide) ?_
  refine g_iload_n dX10_order_113 rfl ?_
  refine g_iconstV (v := 0) dX10_order_114 (by decide) ?_
  refine g_callV (d1 := d - 1) (As := [_, _, _]) 9 dX10_order_115 vX10_159 (by omega) (mg_ob hS) rfl rfl (Nat.le_of_ble_eq_true rfl) ?_
  refine m_push hS ho ho2 ?_
  refine g_aload_n dX10_order_118 rfl ?_
  refine g_aload_n dX10_order_119 rfl ?_
  refine g_iload_n dX10_order_120 rfl ?_
  refine g_callV (d1 := d - 1) (As := [_]) 9 dX10_order_121 vX10_232 (by omega) (mg_ob hS) rfl rfl (Nat.le_of_ble_eq_true rfl) ?_
  refine m_isSo (σ := mPush σ o 2 (nI p) 0) hS hp ha ha2 hc hc2 hnn ?_
  rw [show fSo (mA (mPush σ o 2 (nI p) 0) 2 p) (mD (mPush σ o 2 (nI p) 0) 11 a) (mD (mPush σ o 2 (nI p) 0) 11 c) = 1 from hso]
  refine g_if_eq 133 dX10_order_124 (by decide) (fun q => absurd q (by decide)) (fun _ => ?_)
  refine g_iload_n dX10_order_127 rfl ?_
  refine g_iconstV (v := 1) dX10_order_128 (by decide) ?_
  refine g_iadd dX10_order_129 ?_
  refine g_goto 141 dX10_order_130 (by decide) ?_
  refine mg_putI 30 dX10_order_141 fX10_141 rfl (by decide) hS ?_
  refine g_goto 216 dX10_order_144 (by decide) ?_
  refine g_vret dX10_order_216 rfl ?_
  have e1 : nI p + 1 = nI (p + 1) := nI_1 p
  exact e1 ▸ k
set_option maxHeartbeats 4000000 in
set_option maxRecDepth 20000 in
theorem m_ordIfOff {g : GE} {d : Nat} {w : GW} {σ : MW} {Q : Option Value → GW → Prop} (hd : 1 ≤ d) (hS : SK g w) {p : Nat} (hp : p < 160) (hw : mA σ 0 p = 11) {e : Nat} {a c : Nat} (ha : mA σ 1 p = nI a) (ha2 : a < 8) (hc : mA σ 3 p = nI c) (hc2 : c < 8) (hnn : FP.dcmp (mD σ 11 a) (mD σ 11 c) ≠ none) (hso : fSo (mA σ 2 p) (mD σ 11 a) (mD σ 11 c) = 0) (he : mA σ 4 p = nI e) (k : Q none (put g (sI σ 30 (nI (e + 1))) w)) : gM g d mX10_order [.ref (eB g + 70), .int (nI p)] (put g σ w) Q := by
  refine gM.of (by decide) (Nat.le_of_ble_eq_true rfl) ?_
  refine g_aload_n dX10_order_0 rfl ?_
  refine mg_getA 0 0 dX10_order_1 fX10_7 rfl rt_0 hS ?_
  refine g_iload_n dX10_order_4 rfl ?_
  refine mg_iald dX10_order_5 (by first | exact rfl | assumption) rfl rfl (by omega) hS ?_
  refine g_tableIn (off := 97) 103 dX10_order_6 (by rw [hw]; decide) (by rw [hw]; decide) (by rw [hw]; rfl) (by decide) ?_
  refine g_aload_n dX10_order_103 rfl ?_
  refine g_iload_n dX10_order_104 rfl ?_
  refine g_callV (d1 := d - 1) (As := [_]) 9 dX10_order_105 vX10_232 (by omega) (mg_ob hS) rfl rfl (Nat.le_of_ble_eq_true rfl) ?_
  refine m_isSo hS hp ha ha2 hc hc2 hnn ?_
  refine g_if_eq 118 dX10_order_108 (by decide) (fun _ => ?_) (fun q => absurd (hso) q)
  refine g_aload_n dX10_order_118 rfl ?_
  refine g_aload_n dX10_order_119 rfl ?_
  refine g_iload_n dX10_order_120 rfl ?_
  refine g_callV (d1 := d - 1) (As := [_]) 9 dX10_order_121 vX10_232 (by omega) (mg_ob hS) rfl rfl (Nat.le_of_ble_eq_true rfl) ?_
  refine m_isSo hS hp ha ha2 hc hc2 hnn ?_
  refine g_if_eq 133 dX10_order_124 (by decide) (fun _ => ?_) (fun q => absurd (hso) q)
  refine g_aload_n dX10_order_133 rfl ?_
  refine mg_getA 4 4 dX10_order_134 fX10_22 rfl rt_4 hS ?_
  refine g_iload_n dX10_order_137 rfl ?_
  refine mg_iald dX10_order_138 (by first | exact rfl | assumption) rfl rfl (by omega) hS ?_
  refine g_iconstV (v := 1) dX10_order_139 (by decide) ?_
  refine g_iadd dX10_order_140 ?_
  refine mg_putI 30 dX10_order_141 fX10_141 rfl (by decide) hS ?_
  refine g_goto 216 dX10_order_144 (by decide) ?_
  refine g_vret dX10_order_216 rfl ?_
  have e1 : mA σ 4 p + 1 = nI (e + 1) := by rw [he]; exact nI_1 e
  exact e1 ▸ k
set_option maxHeartbeats 4000000 in
set_option maxRecDepth 20000 in
theorem m_ordLeave {g : GE} {d : Nat} {w : GW} {σ : MW} {Q : Option Value → GW → Prop} (hS : SK g w) {p : Nat} (hp : p < 160) (hw : mA σ 0 p = 5) (k : Q none (put g (sI σ 31 1) w)) : gM g d mX10_order [.ref (eB g + 70), .int (nI p)] (put g σ w) Q := by
  refine gM.of (by decide) (Nat.le_of_ble_eq_true rfl) ?_
  refine g_aload_n dX10_order_0 rfl ?_
  refine mg_getA 0 0 dX10_order_1 fX10_7 rfl rt_0 hS ?_
  refine g_iload_n dX10_order_4 rfl ?_
  refine mg_iald dX10_order_5 (by first | exact rfl | assumption) rfl rfl (by omega) hS ?_
  refine g_tableIn (off := 141) 147 dX10_order_6 (by rw [hw]; decide) (by rw [hw]; decide) (by rw [hw]; rfl) (by decide) ?_
  refine g_aload_n dX10_order_147 rfl ?_
  refine g_iconstV (v := 1) dX10_order_148 (by decide) ?_
  refine mg_putI 31 dX10_order_149 fX10_138 rfl (by decide) hS ?_
  refine g_goto 216 dX10_order_152 (by decide) ?_
  refine g_vret dX10_order_216 rfl ?_
  exact k
set_option maxHeartbeats 4000000 in
set_option maxRecDepth 20000 in
theorem m_ordReturn {g : GE} {d : Nat} {w : GW} {σ : MW} {Q : Option Value → GW → Prop} (hS : SK g w) {p : Nat} (hp : p < 160) (hw : mA σ 0 p = 6) (k : Q none (put g (sI σ 31 2) w)) : gM g d mX10_order [.ref (eB g + 70), .int (nI p)] (put g σ w) Q := by
  refine gM.of (by decide) (Nat.le_of_ble_eq_true rfl) ?_
  refine g_aload_n dX10_order_0 rfl ?_
  refine mg_getA 0 0 dX10_order_1 fX10_7 rfl rt_0 hS ?_
  refine g_iload_n dX10_order_4 rfl ?_
  refine mg_iald dX10_order_5 (by first | exact rfl | assumption) rfl rfl (by omega) hS ?_
  refine g_tableIn (off := 149) 155 dX10_order_6 (by rw [hw]; decide) (by rw [hw]; decide) (by rw [hw]; rfl) (by decide) ?_
  refine g_aload_n dX10_order_155 rfl ?_
  refine g_iconstV (v := 2) dX10_order_156 (by decide) ?_
  refine mg_putI 31 dX10_order_157 fX10_138 rfl (by decide) hS ?_
  refine g_goto 216 dX10_order_160 (by decide) ?_
  refine g_vret dX10_order_216 rfl ?_
  exact k
set_option maxHeartbeats 4000000 in
set_option maxRecDepth 20000 in
theorem m_ordThrow {g : GE} {d : Nat} {w : GW} {σ : MW} {Q : Option Value → GW → Prop} (hd : 1 ≤ d) (hS : SK g w) {p : Nat} (hp : p < 160) (hw : mA σ 0 p = 7) {n : Nat} (hn : mI σ 22 = nI n) (hn2 : n < 600) (k : Q none (put g (mThrow σ n 9 (nI p) (mA σ 1 p) (-1) 0) w)) : gM g d mX10_order [.ref (eB g + 70), .int (nI p)] (put g σ w) Q := by
  refine gM.of (by decide) (Nat.le_of_ble_eq_true rfl) ?_
  refine g_aload_n dX10_order_0 rfl ?_
  refine mg_getA 0 0 dX10_order_1 fX10_7 rfl rt_0 hS ?_
  refine g_iload_n dX10_order_4 rfl ?_
  refine mg_iald dX10_order_5 (by first | exact rfl | assumption) rfl rfl (by omega) hS ?_
  refine g_tableIn (off := 157) 163 dX10_order_6 (by rw [hw]; decide) (by rw [hw]; decide) (by rw [hw]; rfl) (by decide) ?_
  refine g_aload_n dX10_order_163 rfl ?_
  refine g_bipushV (v := 9) dX10_order_164 (by decide) ?_
  refine g_iload_n dX10_order_166 rfl ?_
  refine g_aload_n dX10_order_167 rfl ?_
  refine mg_getA 1 1 dX10_order_168 fX10_13 rfl rt_1 hS ?_
  refine g_iload_n dX10_order_171 rfl ?_
  refine mg_iald dX10_order_172 (by first | exact rfl | assumption) rfl rfl (by omega) hS ?_
  refine g_iconstV (v := -1) dX10_order_173 (by decide) ?_
  refine g_callV (d1 := d - 1) (As := [_, _, _, _]) 9 dX10_order_174 vX10_144 (by omega) (mg_ob hS) rfl rfl (Nat.le_of_ble_eq_true rfl) ?_
  refine m_throwNew hS hn hn2 (Or.inl ⟨by decide, rfl⟩) ?_
  refine g_goto 216 dX10_order_177 (by decide) ?_
  refine g_vret dX10_order_216 rfl ?_
  exact k
set_option maxHeartbeats 4000000 in
set_option maxRecDepth 20000 in
theorem m_ordAgain {g : GE} {d : Nat} {w : GW} {σ : MW} {Q : Option Value → GW → Prop} (hd : 1 ≤ d) (hS : SK g w) {p : Nat} (hp : p < 160) (hw : mA σ 0 p = 8) {o t : Nat} (ho : mI σ 29 = nI (o + 1)) (ho2 : o < 60) (hT : topC σ (o + 1) t) (k : Q none (put g (sI (sI σ 32 (mA σ 24 t)) 31 3) w)) : gM g d mX10_order [.ref (eB g + 70), .int (nI p)] (put g σ w) Q := by
  refine gM.of (by decide) (Nat.le_of_ble_eq_true rfl) ?_
  refine g_aload_n dX10_order_0 rfl ?_
  refine mg_getA 0 0 dX10_order_1 fX10_7 rfl rt_0 hS ?_
  refine g_iload_n dX10_order_4 rfl ?_
  refine mg_iald dX10_order_5 (by first | exact rfl | assumption) rfl rfl (by omega) hS ?_
  refine g_tableIn (off := 174) 180 dX10_order_6 (by rw [hw]; decide) (by rw [hw]; decide) (by rw [hw]; rfl) (by decide) ?_
  refine g_aload_n dX10_order_180 rfl ?_
  refine g_aload_n dX10_order_181 rfl ?_
  refine g_callV (d1 := d - 1) (As := []) 9 dX10_order_182 vX10_221 (by omega) (mg_ob hS) rfl rfl (Nat.le_of_ble_eq_true rfl) ?_
  refine m_caught hS (o := o) ho (by omega) (by have := hT.1; omega) hT.2.1 (fun j h1 h2 => hT.2.2 j h1 (by omega)) ?_
  refine mg_putI 32 dX10_order_185 fX10_135 rfl (by decide) hS ?_
  refine g_aload_n dX10_order_188 rfl ?_
  refine g_iconstV (v := 3) dX10_order_189 (by decide) ?_
  refine mg_putI 31 dX10_order_190 fX10_138 rfl (by decide) hS ?_
  refine g_goto 216 dX10_order_193 (by decide) ?_
  refine g_vret dX10_order_216 rfl ?_
  exact k
set_option maxHeartbeats 4000000 in
set_option maxRecDepth 20000 in
theorem m_ordWrap {g : GE} {d : Nat} {w : GW} {σ : MW} {Q : Option Value → GW → Prop} (hd : 1 ≤ d) (hS : SK g w) {p : Nat} (hp : p < 160) (hw : mA σ 0 p = 9) (k : gM g (d - 1) mX10_wrap [.ref (eB g + 70), .int (nI p)] (put g σ w) (fun r w1 => r = none ∧ Q none w1)) : gM g d mX10_order [.ref (eB g + 70), .int (nI p)] (put g σ w) Q := by
  refine gM.of (by decide) (Nat.le_of_ble_eq_true rfl) ?_
  refine g_aload_n dX10_order_0 rfl ?_
  refine mg_getA 0 0 dX10_order_1 fX10_7 rfl rt_0 hS ?_
  refine g_iload_n dX10_order_4 rfl ?_
  refine mg_iald dX10_order_5 (by first | exact rfl | assumption) rfl rfl (by omega) hS ?_
  refine g_tableIn (off := 190) 196 dX10_order_6 (by rw [hw]; decide) (by rw [hw]; decide) (by rw [hw]; rfl) (by decide) ?_
  refine g_aload_n dX10_order_196 rfl ?_
  refine g_iload_n dX10_order_197 rfl ?_
  refine g_callV (d1 := d - 1) (As := [_]) 9 dX10_order_198 vX10_235 (by omega) (mg_ob hS) rfl rfl (Nat.le_of_ble_eq_true rfl) ?_
  refine gM.imp k (fun r w1 _ _ hq => ?_)
  obtain ⟨rfl, hq⟩ := hq
  refine g_goto 216 dX10_order_201 (by decide) ?_
  refine g_vret dX10_order_216 rfl ?_
  exact hq
set_option maxHeartbeats 4000000 in
set_option maxRecDepth 20000 in
theorem m_ordTell {g : GE} {d : Nat} {w : GW} {σ : MW} {Q : Option Value → GW → Prop} (hd : 1 ≤ d) (hS : SK g w) {p : Nat} (hp : p < 160) (hw : mA σ 0 p = 10) (k : gM g (d - 1) mX10_tell [.ref (eB g + 70)] (put g σ w) (fun r w1 => r = none ∧ Q none w1)) : gM g d mX10_order [.ref (eB g + 70), .int (nI p)] (put g σ w) Q := by
  refine gM.of (by decide) (Nat.le_of_ble_eq_true rfl) ?_
  refine g_aload_n dX10_order_0 rfl ?_
  refine mg_getA 0 0 dX10_order_1 fX10_7 rfl rt_0 hS ?_
  refine g_iload_n dX10_order_4 rfl ?_
  refine mg_iald dX10_order_5 (by first | exact rfl | assumption) rfl rfl (by omega) hS ?_
  refine g_tableIn (off := 198) 204 dX10_order_6 (by rw [hw]; decide) (by rw [hw]; decide) (by rw [hw]; rfl) (by decide) ?_
  refine g_aload_n dX10_order_204 rfl ?_
  refine g_callV (d1 := d - 1) (As := []) 9 dX10_order_205 vX10_238 (by omega) (mg_ob hS) rfl rfl (Nat.le_of_ble_eq_true rfl) ?_
  refine gM.imp k (fun r w1 _ _ hq => ?_)
  obtain ⟨rfl, hq⟩ := hq
  refine g_goto 216 dX10_order_208 (by decide) ?_
  refine g_vret dX10_order_216 rfl ?_
  exact hq
set_option maxHeartbeats 4000000 in
set_option maxRecDepth 20000 in
theorem m_ordCall {g : GE} {d : Nat} {w : GW} {σ : MW} {Q : Option Value → GW → Prop} (hd : 1 ≤ d) (hS : SK g w) {p : Nat} (hp : p < 160) (hw : mA σ 0 p = 12) (k : gM g (d - 1) mX10_call [.ref (eB g + 70), .int (nI p)] (put g σ w) (fun r w1 => r = none ∧ Q none w1)) : gM g d mX10_order [.ref (eB g + 70), .int (nI p)] (put g σ w) Q := by
  refine gM.of (by decide) (Nat.le_of_ble_eq_true rfl) ?_
  refine g_aload_n dX10_order_0 rfl ?_
  refine mg_getA 0 0 dX10_order_1 fX10_7 rfl rt_0 hS ?_
  refine g_iload_n dX10_order_4 rfl ?_
  refine mg_iald dX10_order_5 (by first | exact rfl | assumption) rfl rfl (by omega) hS ?_
  refine g_tableOut 211 dX10_order_6 (by rw [hw]; decide) (by decide) ?_
  refine g_aload_n dX10_order_211 rfl ?_
  refine g_iload_n dX10_order_212 rfl ?_
  refine g_callV (d1 := d - 1) (As := [_]) 9 dX10_order_213 vX10_241 (by omega) (mg_ob hS) rfl rfl (Nat.le_of_ble_eq_true rfl) ?_
  refine gM.imp k (fun r w1 _ _ hq => ?_)
  obtain ⟨rfl, hq⟩ := hq
  refine g_vret dX10_order_216 rfl ?_
  exact hq
/-- the innermost ROUTINE frame below o is t, of routine r -/
def topR (σ : MW) (o t r : Nat) : Prop := t < o ∧ mA σ 21 t = 0 ∧ (∀ j, t < j → j < o → ¬ mA σ 21 j = 0) ∧ mA σ 22 t = nI r ∧ r < 4
set_option maxHeartbeats 4000000 in
set_option maxRecDepth 20000 in
theorem m_go_loop {g : GE} {d : Nat} {w : GW} {σ : MW} {Q : Option Value → GW → Prop} (hS : SK g w) {t : Nat} (ht : mA σ 21 t = 0) (K : gF g d mX10_go 22 [(1, .int (nI t)), (0, .ref (eB g + 70))] [] (put g σ w) Q) : ∀ m : Nat, t + m < 60 → (∀ j, t < j → j ≤ t + m → ¬ mA σ 21 j = 0) → gF g d mX10_go 7 [(1, .int (nI (t + m))), (0, .ref (eB g + 70))] [] (put g σ w) Q
  | 0, hm, _ => by
    refine g_aload_n dX10_go_7 rfl ?_
    refine mg_getA 24 21 dX10_go_8 fX10_79 rfl rt_21 hS ?_
    refine g_iload_n dX10_go_11 rfl ?_
    refine mg_iald dX10_go_12 (by first | exact rfl | assumption) rfl rfl (by omega) hS ?_
    refine g_if_eq 22 dX10_go_13 (by decide) (fun _ => ?_) (fun q => absurd (ht) q)
    exact K
  | m + 1, hm, hj => by
    have h1 := hj (t + (m + 1)) (by omega) (by omega)
    refine g_aload_n dX10_go_7 rfl ?_
    refine mg_getA 24 21 dX10_go_8 fX10_79 rfl rt_21 hS ?_
    refine g_iload_n dX10_go_11 rfl ?_
    refine mg_iald dX10_go_12 (by first | exact rfl | assumption) rfl rfl (by omega) hS ?_
    refine g_if_eq 22 dX10_go_13 (by decide) (fun q => absurd q (h1)) (fun _ => ?_)
    refine g_iinc (lz := [(1, .int (nI (t + m))), (0, .ref (eB g + 70))]) dX10_go_16 rfl (by decide) (by rw [show nI (t + (m + 1)) + Int32.ofInt (-1) = nI (t + m) from pk_m1 (t + m)]; rfl) ?_
    refine g_goto 7 dX10_go_19 (by decide) ?_
    exact m_go_loop hS ht K m (by omega) (fun j h2 h3 => hj j h2 (by omega))
set_option maxHeartbeats 4000000 in
set_option maxRecDepth 20000 in
theorem m_goOver {g : GE} {d : Nat} {w : GW} {σ : MW} {Q : Option Value → GW → Prop} (hd : 1 ≤ d) (hS : SK g w) {o t r s : Nat} (ho : mI σ 29 = nI (o + 1)) (ho2 : o < 60) (hR : topR σ (o + 1) t r) (hs : mA σ 6 r = nI s) (hs2 : s ≤ 40) (hat : mI σ 30 = nI (40 * r + s)) (k : Q none (put g (mOver σ o) w)) : gM g d mX10_go [.ref (eB g + 70)] (put g σ w) Q := by
  refine gM.of (by decide) (Nat.le_of_ble_eq_true rfl) ?_
  have eo : mI σ 29 - 1 = nI o := by rw [ho]; exact nI_pred o
  obtain ⟨hto, ht, hj, hr, hr4⟩ := hR
  obtain ⟨m, rfl⟩ : ∃ m, o = t + m := ⟨o - t, by omega⟩
  have e40 : (40 : Int32) * nI r + nI s = nI (40 * r + s) := by rw [show (40 : Int32) = nI 40 from rfl, pk_mul, nI_add]
  refine g_aload_n dX10_go_0 rfl ?_
  refine mg_getI 29 dX10_go_1 fX10_156 rfl (by decide) hS ?_
  refine g_iconstV (v := 1) dX10_go_4 (by decide) ?_
  refine g_isub dX10_go_5 ?_
  rw [eo]
  refine g_istore_n dX10_go_6 (by decide) rfl ?_
  refine m_go_loop hS ht ?_ m ho2 (fun j h1 h2 => hj j h1 (by omega))
  refine g_aload_n dX10_go_22 rfl ?_
  refine mg_getI 30 dX10_go_23 fX10_141 rfl (by decide) hS ?_
  refine g_bipushV (v := 40) dX10_go_26 (by decide) ?_
  refine g_aload_n dX10_go_28 rfl ?_
  refine mg_getA 25 22 dX10_go_29 fX10_82 rfl rt_22 hS ?_
  refine g_iload_n dX10_go_32 rfl ?_
  refine mg_iald dX10_go_33 rfl rfl rfl (by omega) hS ?_
  rw [hr]
  refine g_imul dX10_go_34 ?_
  refine g_aload_n dX10_go_35 rfl ?_
  refine mg_getA 6 6 dX10_go_36 fX10_28 rfl rt_6 hS ?_
  refine g_aload_n dX10_go_39 rfl ?_
  refine mg_getA 25 22 dX10_go_40 fX10_82 rfl rt_22 hS ?_
  refine g_iload_n dX10_go_43 rfl ?_
  refine mg_iald dX10_go_44 rfl rfl rfl (by omega) hS ?_
  rw [hr]
  refine mg_iald dX10_go_45 rfl rfl rfl (by omega) hS ?_
  rw [hs]
  refine g_iadd dX10_go_46 ?_
  rw [e40]
  refine g_icmp_ne 57 dX10_go_47 (by decide) (fun q => absurd (hat) q) (fun _ => ?_)
  refine g_aload_n dX10_go_50 rfl ?_
  refine g_callV (d1 := d - 1) (As := []) 9 dX10_go_51 vX10_178 (by omega) (mg_ob hS) rfl rfl (Nat.le_of_ble_eq_true rfl) ?_
  refine m_over hS ho (by omega) ?_
  refine g_goto 172 dX10_go_54 (by decide) ?_
  refine g_vret dX10_go_172 rfl ?_
  exact k
set_option maxHeartbeats 4000000 in
set_option maxRecDepth 20000 in
theorem m_goEnd0 {g : GE} {d : Nat} {w : GW} {σ : MW} {Q : Option Value → GW → Prop} (hd : 1 ≤ d) (hS : SK g w) {o t r s : Nat} (ho : mI σ 29 = nI (o + 1)) (ho2 : o < 60) (hR : topR σ (o + 1) t r) (hs : mA σ 6 r = nI s) (hs2 : s ≤ 40) {p : Nat} (hat : mI σ 30 = nI p) (hp : p < 160) (hne : ¬ p = 40 * r + s) (hw : mA σ 0 p = 0) (k : gM g (d - 1) mX10_endPart [.ref (eB g + 70)] (put g σ w) (fun r w1 => r = none ∧ Q none w1)) : gM g d mX10_go [.ref (eB g + 70)] (put g σ w) Q := by
  refine gM.of (by decide) (Nat.le_of_ble_eq_true rfl) ?_
  have eo : mI σ 29 - 1 = nI o := by rw [ho]; exact nI_pred o
  obtain ⟨hto, ht, hj, hr, hr4⟩ := hR
  obtain ⟨m, rfl⟩ : ∃ m, o = t + m := ⟨o - t, by omega⟩
  have e40 : (40 : Int32) * nI r + nI s = nI (40 * r + s) := by rw [show (40 : Int32) = nI 40 from rfl, pk_mul, nI_add]
  refine g_aload_n dX10_go_0 rfl ?_
  refine mg_getI 29 dX10_go_1 fX10_156 rfl (by decide) hS ?_
  refine g_iconstV (v := 1) dX10_go_4 (by decide) ?_
  refine g_isub dX10_go_5 ?_
  rw [eo]
  refine g_istore_n dX10_go_6 (by decide) rfl ?_
  refine m_go_loop hS ht ?_ m ho2 (fun j h1 h2 => hj j h1 (by omega))
  refine g_aload_n dX10_go_22 rfl ?_
  refine mg_getI 30 dX10_go_23 fX10_141 rfl (by decide) hS ?_
  refine g_bipushV (v := 40) dX10_go_26 (by decide) ?_
  refine g_aload_n dX10_go_28 rfl ?_
  refine mg_getA 25 22 dX10_go_29 fX10_82 rfl rt_22 hS ?_
  refine g_iload_n dX10_go_32 rfl ?_
  refine mg_iald dX10_go_33 rfl rfl rfl (by omega) hS ?_
  rw [hr]
  refine g_imul dX10_go_34 ?_
  refine g_aload_n dX10_go_35 rfl ?_
  refine mg_getA 6 6 dX10_go_36 fX10_28 rfl rt_6 hS ?_
  refine g_aload_n dX10_go_39 rfl ?_
  refine mg_getA 25 22 dX10_go_40 fX10_82 rfl rt_22 hS ?_
  refine g_iload_n dX10_go_43 rfl ?_
  refine mg_iald dX10_go_44 rfl rfl rfl (by omega) hS ?_
  rw [hr]
  refine mg_iald dX10_go_45 rfl rfl rfl (by omega) hS ?_
  rw [hs]
  refine g_iadd dX10_go_46 ?_
  rw [e40]
  refine g_icmp_ne 57 dX10_go_47 (by decide) (fun _ => ?_) (fun q => absurd q (by rw [hat]; exact fun q => hne ((nI_eq (by omega) (by omega)).mp q)))
  refine g_aload_n dX10_go_57 rfl ?_
  refine mg_getA 0 0 dX10_go_58 fX10_7 rfl rt_0 hS ?_
  refine g_aload_n dX10_go_61 rfl ?_
  refine mg_getI 30 dX10_go_62 fX10_141 rfl (by decide) hS ?_
  refine mg_iald dX10_go_65 (by first | exact rfl | assumption) rfl rfl (by omega) hS ?_
  refine g_if_eq 95 dX10_go_66 (by decide) (fun _ => ?_) (fun q => absurd (hw) q)
  refine g_aload_n dX10_go_95 rfl ?_
  refine g_callV (d1 := d - 1) (As := []) 9 dX10_go_96 vX10_198 (by omega) (mg_ob hS) rfl rfl (Nat.le_of_ble_eq_true rfl) ?_
  refine gM.imp k (fun r w1 _ _ hq => ?_)
  obtain ⟨rfl, hq⟩ := hq
  refine g_goto 172 dX10_go_99 (by decide) ?_
  refine g_vret dX10_go_172 rfl ?_
  exact hq
set_option maxHeartbeats 4000000 in
set_option maxRecDepth 20000 in
theorem m_goEnd2 {g : GE} {d : Nat} {w : GW} {σ : MW} {Q : Option Value → GW → Prop} (hd : 1 ≤ d) (hS : SK g w) {o t r s : Nat} (ho : mI σ 29 = nI (o + 1)) (ho2 : o < 60) (hR : topR σ (o + 1) t r) (hs : mA σ 6 r = nI s) (hs2 : s ≤ 40) {p : Nat} (hat : mI σ 30 = nI p) (hp : p < 160) (hne : ¬ p = 40 * r + s) (hw : mA σ 0 p = 2) (k : gM g (d - 1) mX10_endPart [.ref (eB g + 70)] (put g σ w) (fun r w1 => r = none ∧ Q none w1)) : gM g d mX10_go [.ref (eB g + 70)] (put g σ w) Q := by
  refine gM.of (by decide) (Nat.le_of_ble_eq_true rfl) ?_
  have eo : mI σ 29 - 1 = nI o := by rw [ho]; exact nI_pred o
  obtain ⟨hto, ht, hj, hr, hr4⟩ := hR
  obtain ⟨m, rfl⟩ : ∃ m, o = t + m := ⟨o - t, by omega⟩
  have e40 : (40 : Int32) * nI r + nI s = nI (40 * r + s) := by rw [show (40 : Int32) = nI 40 from rfl, pk_mul, nI_add]
  refine g_aload_n dX10_go_0 rfl ?_
  refine mg_getI 29 dX10_go_1 fX10_156 rfl (by decide) hS ?_
  refine g_iconstV (v := 1) dX10_go_4 (by decide) ?_
  refine g_isub dX10_go_5 ?_
  rw [eo]
  refine g_istore_n dX10_go_6 (by decide) rfl ?_
  refine m_go_loop hS ht ?_ m ho2 (fun j h1 h2 => hj j h1 (by omega))
  refine g_aload_n dX10_go_22 rfl ?_
  refine mg_getI 30 dX10_go_23 fX10_141 rfl (by decide) hS ?_
  refine g_bipushV (v := 40) dX10_go_26 (by decide) ?_
  refine g_aload_n dX10_go_28 rfl ?_
  refine mg_getA 25 22 dX10_go_29 fX10_82 rfl rt_22 hS ?_
  refine g_iload_n dX10_go_32 rfl ?_
  refine mg_iald dX10_go_33 rfl rfl rfl (by omega) hS ?_
  rw [hr]
  refine g_imul dX10_go_34 ?_
  refine g_aload_n dX10_go_35 rfl ?_
  refine mg_getA 6 6 dX10_go_36 fX10_28 rfl rt_6 hS ?_
  refine g_aload_n dX10_go_39 rfl ?_
  refine mg_getA 25 22 dX10_go_40 fX10_82 rfl rt_22 hS ?_
  refine g_iload_n dX10_go_43 rfl ?_
  refine mg_iald dX10_go_44 rfl rfl rfl (by omega) hS ?_
  rw [hr]
  refine mg_iald dX10_go_45 rfl rfl rfl (by omega) hS ?_
  rw [hs]
  refine g_iadd dX10_go_46 ?_
  rw [e40]
  refine g_icmp_ne 57 dX10_go_47 (by decide) (fun _ => ?_) (fun q => absurd q (by rw [hat]; exact fun q => hne ((nI_eq (by omega) (by omega)).mp q)))
  refine g_aload_n dX10_go_57 rfl ?_
  refine mg_getA 0 0 dX10_go_58 fX10_7 rfl rt_0 hS ?_
  refine g_aload_n dX10_go_61 rfl ?_
  refine mg_getI 30 dX10_go_62 fX10_141 rfl (by decide) hS ?_
  refine mg_iald dX10_go_65 (by first | exact rfl | assumption) rfl rfl (by omega) hS ?_
  refine g_if_eq 95 dX10_go_66 (by decide) (fun q => absurd q (by rw [hw]; decide)) (fun _ => ?_)
  refine g_aload_n dX10_go_69 rfl ?_
  refine mg_getA 0 0 dX10_go_70 fX10_7 rfl rt_0 hS ?_
  refine g_aload_n dX10_go_73 rfl ?_
  refine mg_getI 30 dX10_go_74 fX10_141 rfl (by decide) hS ?_
  refine mg_iald dX10_go_77 (by first | exact rfl | assumption) rfl rfl (by omega) hS ?_
  refine g_iconstV (v := 2) dX10_go_78 (by decide) ?_
  refine g_icmp_eq 95 dX10_go_79 (by decide) (fun _ => ?_) (fun q => absurd (hw) q)
  refine g_aload_n dX10_go_95 rfl ?_
  refine g_callV (d1 := d - 1) (As := []) 9 dX10_go_96 vX10_198 (by omega) (mg_ob hS) rfl rfl (Nat.le_of_ble_eq_true rfl) ?_
  refine gM.imp k (fun r w1 _ _ hq => ?_)
  obtain ⟨rfl, hq⟩ := hq
  refine g_goto 172 dX10_go_99 (by decide) ?_
  refine g_vret dX10_go_172 rfl ?_
  exact hq
set_option maxHeartbeats 4000000 in
set_option maxRecDepth 20000 in
theorem m_goEnd3 {g : GE} {d : Nat} {w : GW} {σ : MW} {Q : Option Value → GW → Prop} (hd : 1 ≤ d) (hS : SK g w) {o t r s : Nat} (ho : mI σ 29 = nI (o + 1)) (ho2 : o < 60) (hR : topR σ (o + 1) t r) (hs : mA σ 6 r = nI s) (hs2 : s ≤ 40) {p : Nat} (hat : mI σ 30 = nI p) (hp : p < 160) (hne : ¬ p = 40 * r + s) (hw : mA σ 0 p = 3) (k : gM g (d - 1) mX10_endPart [.ref (eB g + 70)] (put g σ w) (fun r w1 => r = none ∧ Q none w1)) : gM g d mX10_go [.ref (eB g + 70)] (put g σ w) Q := by
  refine gM.of (by decide) (Nat.le_of_ble_eq_true rfl) ?_
  have eo : mI σ 29 - 1 = nI o := by rw [ho]; exact nI_pred o
  obtain ⟨hto, ht, hj, hr, hr4⟩ := hR
  obtain ⟨m, rfl⟩ : ∃ m, o = t + m := ⟨o - t, by omega⟩
  have e40 : (40 : Int32) * nI r + nI s = nI (40 * r + s) := by rw [show (40 : Int32) = nI 40 from rfl, pk_mul, nI_add]
  refine g_aload_n dX10_go_0 rfl ?_
  refine mg_getI 29 dX10_go_1 fX10_156 rfl (by decide) hS ?_
  refine g_iconstV (v := 1) dX10_go_4 (by decide) ?_
  refine g_isub dX10_go_5 ?_
  rw [eo]
  refine g_istore_n dX10_go_6 (by decide) rfl ?_
  refine m_go_loop hS ht ?_ m ho2 (fun j h1 h2 => hj j h1 (by omega))
  refine g_aload_n dX10_go_22 rfl ?_
  refine mg_getI 30 dX10_go_23 fX10_141 rfl (by decide) hS ?_
  refine g_bipushV (v := 40) dX10_go_26 (by decide) ?_
  refine g_aload_n dX10_go_28 rfl ?_
  refine mg_getA 25 22 dX10_go_29 fX10_82 rfl rt_22 hS ?_
  refine g_iload_n dX10_go_32 rfl ?_
  refine mg_iald dX10_go_33 rfl rfl rfl (by omega) hS ?_
  rw [hr]
  refine g_imul dX10_go_34 ?_
  refine g_aload_n dX10_go_35 rfl ?_
  refine mg_getA 6 6 dX10_go_36 fX10_28 rfl rt_6 hS ?_
  refine g_aload_n dX10_go_39 rfl ?_
  refine mg_getA 25 22 dX10_go_40 fX10_82 rfl rt_22 hS ?_
  refine g_iload_n dX10_go_43 rfl ?_
  refine mg_iald dX10_go_44 rfl rfl rfl (by omega) hS ?_
  rw [hr]
  refine mg_iald dX10_go_45 rfl rfl rfl (by omega) hS ?_
  rw [hs]
  refine g_iadd dX10_go_46 ?_
  rw [e40]
  refine g_icmp_ne 57 dX10_go_47 (by decide) (fun _ => ?_) (fun q => absurd q (by rw [hat]; exact fun q => hne ((nI_eq (by omega) (by omega)).mp q)))
  refine g_aload_n dX10_go_57 rfl ?_
  refine mg_getA 0 0 dX10_go_58 fX10_7 rfl rt_0 hS ?_
  refine g_aload_n dX10_go_61 rfl ?_
  refine mg_getI 30 dX10_go_62 fX10_141 rfl (by decide) hS ?_
  refine mg_iald dX10_go_65 (by first | exact rfl | assumption) rfl rfl (by omega) hS ?_
  refine g_if_eq 95 dX10_go_66 (by decide) (fun q => absurd q (by rw [hw]; decide)) (fun _ => ?_)
  refine g_aload_n dX10_go_69 rfl ?_
  refine mg_getA 0 0 dX10_go_70 fX10_7 rfl rt_0 hS ?_
  refine g_aload_n dX10_go_73 rfl ?_
  refine mg_getI 30 dX10_go_74 fX10_141 rfl (by decide) hS ?_
  refine mg_iald dX10_go_77 (by first | exact rfl | assumption) rfl rfl (by omega) hS ?_
  refine g_iconstV (v := 2) dX10_go_78 (by decide) ?_
  refine g_icmp_eq 95 dX10_go_79 (by decide) (fun q => absurd q (by rw [hw]; decide)) (fun _ => ?_)
  refine g_aload_n dX10_go_82 rfl ?_
  refine mg_getA 0 0 dX10_go_83 fX10_7 rfl rt_0 hS ?_
  refine g_aload_n dX10_go_86 rfl ?_
  refine mg_getI 30 dX10_go_87 fX10_141 rfl (by decide) hS ?_
  refine mg_iald dX10_go_90 (by first | exact rfl | assumption) rfl rfl (by omega) hS ?_
  refine g_iconstV (v := 3) dX10_go_91 (by decide) ?_
  refine g_icmp_ne 102 dX10_go_92 (by decide) (fun q => absurd (hw) q) (fun _ => ?_)
  refine g_aload_n dX10_go_95 rfl ?_
  refine g_callV (d1 := d - 1) (As := []) 9 dX10_go_96 vX10_198 (by omega) (mg_ob hS) rfl rfl (Nat.le_of_ble_eq_true rfl) ?_
  refine gM.imp k (fun r w1 _ _ hq => ?_)
  obtain ⟨rfl, hq⟩ := hq
  refine g_goto 172 dX10_go_99 (by decide) ?_
  refine g_vret dX10_go_172 rfl ?_
  exact hq
set_option maxHeartbeats 4000000 in
set_option maxRecDepth 20000 in
theorem m_goTired {g : GE} {d : Nat} {w : GW} {σ : MW} {Q : Option Value → GW → Prop} (hd : 2 ≤ d) (hS : SK g w) {o t r s : Nat} (ho : mI σ 29 = nI (o + 1)) (ho2 : o < 60) (hR : topR σ (o + 1) t r) (hs : mA σ 6 r = nI s) (hs2 : s ≤ 40) {p : Nat} (hat : mI σ 30 = nI p) (hp : p < 160) (hne : ¬ p = 40 * r + s) (hw0 : ¬ mA σ 0 p = 0) (hw2 : ¬ mA σ 0 p = 2) (hw3 : ¬ mA σ 0 p = 3) {n : Nat} (hc : mI σ 34 = nI 200) (hn : mI σ 22 = nI n) (hn2 : n < 600) (k : Q none (put g (mFail σ n 10) w)) : gM g d mX10_go [.ref (eB g + 70)] (put g σ w) Q := by
  refine gM.of (by decide) (Nat.le_of_ble_eq_true rfl) ?_
  have eo : mI σ 29 - 1 = nI o := by rw [ho]; exact nI_pred o
  obtain ⟨hto, ht, hj, hr, hr4⟩ := hR
  obtain ⟨m, rfl⟩ : ∃ m, o = t + m := ⟨o - t, by omega⟩
  have e40 : (40 : Int32) * nI r + nI s = nI (40 * r + s) := by rw [show (40 : Int32) = nI 40 from rfl, pk_mul, nI_add]
  refine g_aload_n dX10_go_0 rfl ?_
  refine mg_getI 29 dX10_go_1 fX10_156 rfl (by decide) hS ?_
  refine g_iconstV (v := 1) dX10_go_4 (by decide) ?_
  refine g_isub dX10_go_5 ?_
  rw [eo]
  refine g_istore_n dX10_go_6 (by decide) rfl ?_
  refine m_go_loop hS ht ?_ m ho2 (fun j h1 h2 => hj j h1 (by omega))
  refine g_aload_n dX10_go_22 rfl ?_
  refine mg_getI 30 dX10_go_23 fX10_141 rfl (by decide) hS ?_
  refine g_bipushV (v := 40) dX10_go_26 (by decide) ?_
  refine g_aload_n dX10_go_28 rfl ?_
  refine mg_getA 25 22 dX10_go_29 fX10_82 rfl rt_22 hS ?_
  refine g_iload_n dX10_go_32 rfl ?_
  refine mg_iald dX10_go_33 rfl rfl rfl (by omega) hS ?_
  rw [hr]
  refine g_imul dX10_go_34 ?_
  refine g_aload_n dX10_go_35 rfl ?_
  refine mg_getA 6 6 dX10_go_36 fX10_28 rfl rt_6 hS ?_
  refine g_aload_n dX10_go_39 rfl ?_
  refine mg_getA 25 22 dX10_go_40 fX10_82 rfl rt_22 hS ?_
  refine g_iload_n dX10_go_43 rfl ?_
  refine mg_iald dX10_go_44 rfl rfl rfl (by omega) hS ?_
  rw [hr]
  refine mg_iald dX10_go_45 rfl rfl rfl (by omega) hS ?_
  rw [hs]
  refine g_iadd dX10_go_46 ?_
  rw [e40]
  refine g_icmp_ne 57 dX10_go_47 (by decide) (fun _ => ?_) (fun q => absurd q (by rw [hat]; exact fun q => hne ((nI_eq (by omega) (by omega)).mp q)))
  refine g_aload_n dX10_go_57 rfl ?_
  refine mg_getA 0 0 dX10_go_58 fX10_7 rfl rt_0 hS ?_
  refine g_aload_n dX10_go_61 rfl ?_
  refine mg_getI 30 dX10_go_62 fX10_141 rfl (by decide) hS ?_
  refine mg_iald dX10_go_65 (by first | exact rfl | assumption) rfl rfl (by omega) hS ?_
  refine g_if_eq 95 dX10_go_66 (by decide) (fun q => absurd q (hw0)) (fun _ => ?_)
  refine g_aload_n dX10_go_69 rfl ?_
  refine mg_getA 0 0 dX10_go_70 fX10_7 rfl rt_0 hS ?_
  refine g_aload_n dX10_go_73 rfl ?_
  refine mg_getI 30 dX10_go_74 fX10_141 rfl (by decide) hS ?_
  refine mg_iald dX10_go_77 (by first | exact rfl | assumption) rfl rfl (by omega) hS ?_
  refine g_iconstV (v := 2) dX10_go_78 (by decide) ?_
  refine g_icmp_eq 95 dX10_go_79 (by decide) (fun q => absurd q (hw2)) (fun _ => ?_)
  refine g_aload_n dX10_go_82 rfl ?_
  refine mg_getA 0 0 dX10_go_83 fX10_7 rfl rt_0 hS ?_
  refine g_aload_n dX10_go_86 rfl ?_
  refine mg_getI 30 dX10_go_87 fX10_141 rfl (by decide) hS ?_
  refine mg_iald dX10_go_90 (by first | exact rfl | assumption) rfl rfl (by omega) hS ?_
  refine g_iconstV (v := 3) dX10_go_91 (by decide) ?_
  refine g_icmp_ne 102 dX10_go_92 (by decide) (fun _ => ?_) (fun q => absurd q (hw3))
  refine g_aload_n dX10_go_102 rfl ?_
  refine g_callV (d1 := d - 1) (As := []) 9 dX10_go_103 vX10_187 (by omega) (mg_ob hS) rfl rfl (Nat.le_of_ble_eq_true rfl) ?_
  refine m_isCounted hS (n := 200) hc (by omega) (fun _ => ?_) (fun q => absurd q (by omega))
  refine g_if_ne 118 dX10_go_106 (by decide) (fun q => absurd (rfl) q) (fun _ => ?_)
  refine g_aload_n dX10_go_109 rfl ?_
  refine g_bipushV (v := 10) dX10_go_110 (by decide) ?_
  refine g_callV (d1 := d - 1) (As := [_]) 9 dX10_go_112 vX10_191 (by omega) (mg_ob hS) rfl rfl (Nat.le_of_ble_eq_true rfl) ?_
  refine m_fail (by omega) hS hn hn2 ?_
  refine g_goto 172 dX10_go_115 (by decide) ?_
  refine g_vret dX10_go_172 rfl ?_
  exact k
set_option maxHeartbeats 4000000 in
set_option maxRecDepth 20000 in
theorem m_goOrder {g : GE} {d : Nat} {w : GW} {σ : MW} {Q : Option Value → GW → Prop} (hd : 1 ≤ d) (hS : SK g w) {o t r s : Nat} (ho : mI σ 29 = nI (o + 1)) (ho2 : o < 60) (hR : topR σ (o + 1) t r) (hs : mA σ 6 r = nI s) (hs2 : s ≤ 40) {p : Nat} (hat : mI σ 30 = nI p) (hp : p < 160) (hne : ¬ p = 40 * r + s) (hw0 : ¬ mA σ 0 p = 0) (hw2 : ¬ mA σ 0 p = 2) (hw3 : ¬ mA σ 0 p = 3) {c : Nat} (hc : mI σ 34 = nI c) (hc2 : c < 200) (hlt : mA σ 0 p < 13) (k : gM g (d - 1) mX10_order [.ref (eB g + 70), .int (nI p)] (put g (sI σ 34 (nI (c + 1))) w) (fun r w1 => r = none ∧ Q none w1)) : gM g d mX10_go [.ref (eB g + 70)] (put g σ w) Q := by
  refine gM.of (by decide) (Nat.le_of_ble_eq_true rfl) ?_
  have eo : mI σ 29 - 1 = nI o := by rw [ho]; exact nI_pred o
  obtain ⟨hto, ht, hj, hr, hr4⟩ := hR
  obtain ⟨m, rfl⟩ : ∃ m, o = t + m := ⟨o - t, by omega⟩
  have e40 : (40 : Int32) * nI r + nI s = nI (40 * r + s) := by rw [show (40 : Int32) = nI 40 from rfl, pk_mul, nI_add]
  refine g_aload_n dX10_go_0 rfl ?_
  refine mg_getI 29 dX10_go_1 fX10_156 rfl (by decide) hS ?_
  refine g_iconstV (v := 1) dX10_go_4 (by decide) ?_
  refine g_isub dX10_go_5 ?_
  rw [eo]
  refine g_istore_n dX10_go_6 (by decide) rfl ?_
  refine m_go_loop hS ht ?_ m ho2 (fun j h1 h2 => hj j h1 (by omega))
  refine g_aload_n dX10_go_22 rfl ?_
  refine mg_getI 30 dX10_go_23 fX10_141 rfl (by decide) hS ?_
  refine g_bipushV (v := 40) dX10_go_26 (by decide) ?_
  refine g_aload_n dX10_go_28 rfl ?_
  refine mg_getA 25 22 dX10_go_29 fX10_82 rfl rt_22 hS ?_
  refine g_iload_n dX10_go_32 rfl ?_
  refine mg_iald dX10_go_33 rfl rfl rfl (by omega) hS ?_
  rw [hr]
  refine g_imul dX10_go_34 ?_
  refine g_aload_n dX10_go_35 rfl ?_
  refine mg_getA 6 6 dX10_go_36 fX10_28 rfl rt_6 hS ?_
  refine g_aload_n dX10_go_39 rfl ?_
  refine mg_getA 25 22 dX10_go_40 fX10_82 rfl rt_22 hS ?_
  refine g_iload_n dX10_go_43 rfl ?_
  refine mg_iald dX10_go_44 rfl rfl rfl (by omega) hS ?_
  rw [hr]
  refine mg_iald dX10_go_45 rfl rfl rfl (by omega) hS ?_
  rw [hs]
  refine g_iadd dX10_go_46 ?_
  rw [e40]
  refine g_icmp_ne 57 dX10_go_47 (by decide) (fun _ => ?_) (fun q => absurd q (by rw [hat]; exact fun q => hne ((nI_eq (by omega) (by omega)).mp q)))
  refine g_aload_n dX10_go_57 rfl ?_
  refine mg_getA 0 0 dX10_go_58 fX10_7 rfl rt_0 hS ?_
  refine g_aload_n dX10_go_61 rfl ?_
  refine mg_getI 30 dX10_go_62 fX10_141 rfl (by decide) hS ?_
  refine mg_iald dX10_go_65 (by first | exact rfl | assumption) rfl rfl (by omega) hS ?_
  refine g_if_eq 95 dX10_go_66 (by decide) (fun q => absurd q (hw0)) (fun _ => ?_)
  refine g_aload_n dX10_go_69 rfl ?_
  refine mg_getA 0 0 dX10_go_70 fX10_7 rfl rt_0 hS ?_
  refine g_aload_n dX10_go_73 rfl ?_
  refine mg_getI 30 dX10_go_74 fX10_141 rfl (by decide) hS ?_
  refine mg_iald dX10_go_77 (by first | exact rfl | assumption) rfl rfl (by omega) hS ?_
  refine g_iconstV (v := 2) dX10_go_78 (by decide) ?_
  refine g_icmp_eq 95 dX10_go_79 (by decide) (fun q => absurd q (hw2)) (fun _ => ?_)
  refine g_aload_n dX10_go_82 rfl ?_
  refine mg_getA 0 0 dX10_go_83 fX10_7 rfl rt_0 hS ?_
  refine g_aload_n dX10_go_86 rfl ?_
  refine mg_getI 30 dX10_go_87 fX10_141 rfl (by decide) hS ?_
  refine mg_iald dX10_go_90 (by first | exact rfl | assumption) rfl rfl (by omega) hS ?_
  refine g_iconstV (v := 3) dX10_go_91 (by decide) ?_
  refine g_icmp_ne 102 dX10_go_92 (by decide) (fun _ => ?_) (fun q => absurd q (hw3))
  refine g_aload_n dX10_go_102 rfl ?_
  refine g_callV (d1 := d - 1) (As := []) 9 dX10_go_103 vX10_187 (by omega) (mg_ob hS) rfl rfl (Nat.le_of_ble_eq_true rfl) ?_
  refine m_isCounted hS (n := c) hc (by omega) (fun q => absurd q (by omega)) (fun _ => ?_)
  refine g_if_ne 118 dX10_go_106 (by decide) (fun _ => ?_) (fun q => absurd q (by decide))
  refine g_aload_n dX10_go_118 rfl ?_
  refine mg_getA 0 0 dX10_go_119 fX10_7 rfl rt_0 hS ?_
  refine g_aload_n dX10_go_122 rfl ?_
  refine mg_getI 30 dX10_go_123 fX10_141 rfl (by decide) hS ?_
  refine mg_iald dX10_go_126 (by first | exact rfl | assumption) rfl rfl (by omega) hS ?_
  refine g_bipushV (v := 13) dX10_go_127 (by decide) ?_
  refine g_icmp_ge 143 dX10_go_129 (by decide) (fun q => absurd q (by rw [Int32.not_le]; exact hlt)) (fun _ => ?_)
  refine g_aload_n dX10_go_132 rfl ?_
  refine g_aload_n dX10_go_133 rfl ?_
  refine mg_getI 30 dX10_go_134 fX10_141 rfl (by decide) hS ?_
  rw [show mI (sI σ 34 (nI (c + 1))) 30 = nI p from hat]
  refine g_callV (d1 := d - 1) (As := [_]) 9 dX10_go_137 vX10_201 (by omega) (mg_ob hS) rfl rfl (Nat.le_of_ble_eq_true rfl) ?_
  refine gM.imp k (fun r w1 _ _ hq => ?_)
  obtain ⟨rfl, hq⟩ := hq
  refine g_goto 172 dX10_go_140 (by decide) ?_
  refine g_vret dX10_go_172 rfl ?_
  exact hq
set_option maxHeartbeats 4000000 in
set_option maxRecDepth 20000 in
theorem m_goWork {g : GE} {d : Nat} {w : GW} {σ : MW} {Q : Option Value → GW → Prop} (hd : 1 ≤ d) (hS : SK g w) {o t r s : Nat} (ho : mI σ 29 = nI (o + 1)) (ho2 : o < 60) (hR : topR σ (o + 1) t r) (hs : mA σ 6 r = nI s) (hs2 : s ≤ 40) {p : Nat} (hat : mI σ 30 = nI p) (hp : p < 160) (hne : ¬ p = 40 * r + s) (hw0 : ¬ mA σ 0 p = 0) (hw2 : ¬ mA σ 0 p = 2) (hw3 : ¬ mA σ 0 p = 3) {c : Nat} (hc : mI σ 34 = nI c) (hc2 : c < 200) (hge : (13 : Int32) ≤ mA σ 0 p) (k : gM g (d - 1) mX10_work [.ref (eB g + 70), .int (nI p)] (put g (sI σ 34 (nI (c + 1))) w) (fun r w1 => r = none ∧ ∃ τ : MW, w1 = put g τ w ∧ mI τ 30 = nI p ∧ (mI τ 31 = 0 → Q none (put g (sI τ 30 (nI (p + 1))) w)) ∧ (¬ mI τ 31 = 0 → Q none (put g τ w)))) : gM g d mX10_go [.ref (eB g + 70)] (put g σ w) Q := by
  refine gM.of (by decide) (Nat.le_of_ble_eq_true rfl) ?_
  have eo : mI σ 29 - 1 = nI o := by rw [ho]; exact nI_pred o
  obtain ⟨hto, ht, hj, hr, hr4⟩ := hR
  obtain ⟨m, rfl⟩ : ∃ m, o = t + m := ⟨o - t, by omega⟩
  have e40 : (40 : Int32) * nI r + nI s = nI (40 * r + s) := by rw [show (40 : Int32) = nI 40 from rfl, pk_mul, nI_add]
  refine g_aload_n dX10_go_0 rfl ?_
  refine mg_getI 29 dX10_go_1 fX10_156 rfl (by decide) hS ?_
  refine g_iconstV (v := 1) dX10_go_4 (by decide) ?_
  refine g_isub dX10_go_5 ?_
  rw [eo]
  refine g_istore_n dX10_go_6 (by decide) rfl ?_
  refine m_go_loop hS ht ?_ m ho2 (fun j h1 h2 => hj j h1 (by omega))
  refine g_aload_n dX10_go_22 rfl ?_
  refine mg_getI 30 dX10_go_23 fX10_141 rfl (by decide) hS ?_
  refine g_bipushV (v := 40) dX10_go_26 (by decide) ?_
  refine g_aload_n dX10_go_28 rfl ?_
  refine mg_getA 25 22 dX10_go_29 fX10_82 rfl rt_22 hS ?_
  refine g_iload_n dX10_go_32 rfl ?_
  refine mg_iald dX10_go_33 rfl rfl rfl (by omega) hS ?_
  rw [hr]
  refine g_imul dX10_go_34 ?_
  refine g_aload_n dX10_go_35 rfl ?_
  refine mg_getA 6 6 dX10_go_36 fX10_28 rfl rt_6 hS ?_
  refine g_aload_n dX10_go_39 rfl ?_
  refine mg_getA 25 22 dX10_go_40 fX10_82 rfl rt_22 hS ?_
  refine g_iload_n dX10_go_43 rfl ?_
  refine mg_iald dX10_go_44 rfl rfl rfl (by omega) hS ?_
  rw [hr]
  refine mg_iald dX10_go_45 rfl rfl rfl (by omega) hS ?_
  rw [hs]
  refine g_iadd dX10_go_46 ?_
  rw [e40]
  refine g_icmp_ne 57 dX10_go_47 (by decide) (fun _ => ?_) (fun q => absurd q (by rw [hat]; exact fun q => hne ((nI_eq (by omega) (by omega)).mp q)))
  refine g_aload_n dX10_go_57 rfl ?_
  refine mg_getA 0 0 dX10_go_58 fX10_7 rfl rt_0 hS ?_
  refine g_aload_n dX10_go_61 rfl ?_
  refine mg_getI 30 dX10_go_62 fX10_141 rfl (by decide) hS ?_
  refine mg_iald dX10_go_65 (by first | exact rfl | assumption) rfl rfl (by omega) hS ?_
  refine g_if_eq 95 dX10_go_66 (by decide) (fun q => absurd q (hw0)) (fun _ => ?_)
  refine g_aload_n dX10_go_69 rfl ?_
  refine mg_getA 0 0 dX10_go_70 fX10_7 rfl rt_0 hS ?_
  refine g_aload_n dX10_go_73 rfl ?_
  refine mg_getI 30 dX10_go_74 fX10_141 rfl (by decide) hS ?_
  refine mg_iald dX10_go_77 (by first | exact rfl | assumption) rfl rfl (by omega) hS ?_
  refine g_iconstV (v := 2) dX10_go_78 (by decide) ?_
  refine g_icmp_eq 95 dX10_go_79 (by decide) (fun q => absurd q (hw2)) (fun _ => ?_)
  refine g_aload_n dX10_go_82 rfl ?_
  refine mg_getA 0 0 dX10_go_83 fX10_7 rfl rt_0 hS ?_
  refine g_aload_n dX10_go_86 rfl ?_
  refine mg_getI 30 dX10_go_87 fX10_141 rfl (by decide) hS ?_
  refine mg_iald dX10_go_90 (by first | exact rfl | assumption) rfl rfl (by omega) hS ?_
  refine g_iconstV (v := 3) dX10_go_91 (by decide) ?_
  refine g_icmp_ne 102 dX10_go_92 (by decide) (fun _ => ?_) (fun q => absurd q (hw3))
  refine g_aload_n dX10_go_102 rfl ?_
  refine g_callV (d1 := d - 1) (As := []) 9 dX10_go_103 vX10_187 (by omega) (mg_ob hS) rfl rfl (Nat.le_of_ble_eq_true rfl) ?_
  refine m_isCounted hS (n := c) hc (by omega) (fun q => absurd q (by omega)) (fun _ => ?_)
  refine g_if_ne 118 dX10_go_106 (by decide) (fun _ => ?_) (fun q => absurd q (by decide))
  refine g_aload_n dX10_go_118 rfl ?_
  refine mg_getA 0 0 dX10_go_119 fX10_7 rfl rt_0 hS ?_
  refine g_aload_n dX10_go_122 rfl ?_
  refine mg_getI 30 dX10_go_123 fX10_141 rfl (by decide) hS ?_
  refine mg_iald dX10_go_126 (by first | exact rfl | assumption) rfl rfl (by omega) hS ?_
  refine g_bipushV (v := 13) dX10_go_127 (by decide) ?_
  refine g_icmp_ge 143 dX10_go_129 (by decide) (fun _ => ?_) (fun q => absurd (hge) q)
  refine g_aload_n dX10_go_143 rfl ?_
  refine g_aload_n dX10_go_144 rfl ?_
  refine mg_getI 30 dX10_go_145 fX10_141 rfl (by decide) hS ?_
  rw [show mI (sI σ 34 (nI (c + 1))) 30 = nI p from hat]
  refine g_callV (d1 := d - 1) (As := [_]) 9 dX10_go_148 vX10_204 (by omega) (mg_ob hS) rfl rfl (Nat.le_of_ble_eq_true rfl) ?_
  refine gM.imp k (fun r w1 _ _ hq => ?_)
  obtain ⟨rfl, hq⟩ := hq
  obtain ⟨τ, rfl, hτ, q1, q2⟩ := hq
  refine g_aload_n dX10_go_151 rfl ?_
  refine g_dup dX10_go_152 rfl ?_
  refine mg_getI 30 dX10_go_153 fX10_141 rfl (by decide) hS ?_
  refine g_aload_n dX10_go_156 rfl ?_
  refine mg_getI 31 dX10_go_157 fX10_138 rfl (by decide) hS ?_
  refine g_if_ne 167 dX10_go_160 (by decide) (fun c1 => ?_) (fun c1 => ?_)
  · refine g_iconstV (v := 0) dX10_go_167 (by decide) ?_
    refine g_iadd dX10_go_168 ?_
    refine mg_putI 30 dX10_go_169 fX10_141 rfl (by decide) hS ?_
    refine g_vret dX10_go_172 rfl ?_
    first
      | (have e1 : mI τ 30 + 1 = nI (p + 1) := (by rw [hτ]; exact nI_1 p)
         exact e1 ▸ q1 c1)
      | (have e1 : mI τ 30 + 0 = mI τ 30 := (by simp)
         have e2 : sI τ 30 (mI τ 30) = τ := (by unfold sI mI; refine Prod.ext ?_ rfl; funext j; by_cases hj : j = 30; (subst hj; simp [va_up]); simp [va_up, hj])
         have q3 := q2 c1
         rw [← e2, ← e1] at q3
         simpa using q3)
  · refine g_iconstV (v := 1) dX10_go_163 (by decide) ?_
    refine g_goto 168 dX10_go_164 (by decide) ?_
    refine g_iadd dX10_go_168 ?_
    refine mg_putI 30 dX10_go_169 fX10_141 rfl (by decide) hS ?_
    refine g_vret dX10_go_172 rfl ?_
    first
      | (have e1 : mI τ 30 + 1 = nI (p + 1) := (by rw [hτ]; exact nI_1 p)
         exact e1 ▸ q1 c1)
      | (have e1 : mI τ 30 + 0 = mI τ 30 := (by simp)
         have e2 : sI τ 30 (mI τ 30) = τ := (by unfold sI mI; refine Prod.ext ?_ rfl; funext j; by_cases hj : j = 30; (subst hj; simp [va_up]); simp [va_up, hj])
         have q3 := q2 c1
         rw [← e2, ← e1] at q3
         simpa using q3)
