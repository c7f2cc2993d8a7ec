theorem rt_0 : (576 + 0, 70, 71 + 0) ∈ rTab := by decide +kernel
theorem rt_1 : (576 + 1, 70, 71 + 1) ∈ rTab := by decide +kernel
theorem rt_2 : (576 + 2, 70, 71 + 2) ∈ rTab := by decide +kernel
theorem rt_3 : (576 + 3, 70, 71 + 3) ∈ rTab := by decide +kernel
theorem rt_4 : (576 + 4, 70, 71 + 4) ∈ rTab := by decide +kernel
theorem rt_5 : (576 + 5, 70, 71 + 5) ∈ rTab := by decide +kernel
theorem rt_6 : (576 + 6, 70, 71 + 6) ∈ rTab := by decide +kernel
theorem rt_7 : (576 + 7, 70, 71 + 7) ∈ rTab := by decide +kernel
theorem rt_8 : (576 + 8, 70, 71 + 8) ∈ rTab := by decide +kernel
theorem rt_9 : (576 + 9, 70, 71 + 9) ∈ rTab := by decide +kernel
theorem rt_10 : (576 + 10, 70, 71 + 10) ∈ rTab := by decide +kernel
theorem rt_11 : (576 + 12, 70, 71 + 11) ∈ rTab := by decide +kernel
theorem rt_12 : (576 + 13, 70, 71 + 12) ∈ rTab := by decide +kernel
theorem rt_13 : (576 + 14, 70, 71 + 13) ∈ rTab := by decide +kernel
theorem rt_14 : (576 + 15, 70, 71 + 14) ∈ rTab := by decide +kernel
theorem rt_15 : (576 + 16, 70, 71 + 15) ∈ rTab := by decide +kernel
theorem rt_16 : (576 + 17, 70, 71 + 16) ∈ rTab := by decide +kernel
theorem rt_17 : (576 + 18, 70, 71 + 17) ∈ rTab := by decide +kernel
theorem rt_18 : (576 + 19, 70, 71 + 18) ∈ rTab := by decide +kernel
theorem rt_19 : (576 + 20, 70, 71 + 19) ∈ rTab := by decide +kernel
theorem rt_20 : (576 + 21, 70, 71 + 20) ∈ rTab := by decide +kernel
theorem rt_21 : (576 + 24, 70, 71 + 21) ∈ rTab := by decide +kernel
theorem rt_22 : (576 + 25, 70, 71 + 22) ∈ rTab := by decide +kernel
theorem rt_23 : (576 + 26, 70, 71 + 23) ∈ rTab := by decide +kernel
theorem rt_24 : (576 + 27, 70, 71 + 24) ∈ rTab := by decide +kernel
theorem rt_25 : (576 + 28, 70, 71 + 25) ∈ rTab := by decide +kernel
theorem rt_26 : (576 + 37, 70, 71 + 26) ∈ rTab := by decide +kernel
theorem rt_27 : (576 + 39, 70, 71 + 27) ∈ rTab := by decide +kernel
/-- isIn, as a truth -/
def fIn (v lo hi : Int32) : Int32 := if v < lo then 0 else if hi < v then 0 else 1
theorem fIn_01 (v lo hi : Int32) : fIn v lo hi = 0 ∨ fIn v lo hi = 1 := by
  unfold fIn
  split
  · exact Or.inl rfl
  · split
    · exact Or.inl rfl
    · exact Or.inr rfl
set_option maxHeartbeats 4000000 in
set_option maxRecDepth 20000 in
theorem m_isIn {g : GE} {d : Nat} {w : GW} {Q : Option Value → GW → Prop} {v lo hi : Int32} (k : Q (some (.int (fIn v lo hi))) w) : gM g d mX10_isIn [.int v, .int lo, .int hi] w Q := by
  refine gM.of (by decide) (Nat.le_of_ble_eq_true rfl) ?_
  refine g_iload_n dX10_isIn_0 rfl ?_
  refine g_iload_n dX10_isIn_1 rfl ?_
  refine g_icmp_lt 14 dX10_isIn_2 (by decide) (fun c1 => ?_) (fun c1 => ?_)
  · refine g_iconstV (v := 0) dX10_isIn_14 (by decide) ?_
    refine g_zret dX10_isIn_15 rfl rfl ?_
    simpa [fIn, c1] using k
  · refine g_iload_n dX10_isIn_5 rfl ?_
    refine g_iload_n dX10_isIn_6 rfl ?_
    refine g_icmp_gt 14 dX10_isIn_7 (by decide) (fun c2 => ?_) (fun c2 => ?_)
    · refine g_iconstV (v := 0) dX10_isIn_14 (by decide) ?_
      refine g_zret dX10_isIn_15 rfl rfl ?_
      simpa [fIn, c1, c2] using k
    · refine g_iconstV (v := 1) dX10_isIn_10 (by decide) ?_
      refine g_goto 15 dX10_isIn_11 (by decide) ?_
      refine g_zret dX10_isIn_15 rfl rfl ?_
      simpa [fIn, c1, c2] using k
set_option maxHeartbeats 4000000 in
set_option maxRecDepth 20000 in
theorem m_isDial {g : GE} {d : Nat} {w : GW} {Q : Option Value → GW → Prop} (hd : 1 ≤ d) {v : Int32} (k : Q (some (.int (fIn v 0 7))) w) : gM g d mX10_isDial [.int v] w Q := by
  refine gM.of (by decide) (Nat.le_of_ble_eq_true rfl) ?_
  refine g_iload_n dX10_isDial_0 rfl ?_
  refine g_iconstV (v := 0) dX10_isDial_1 (by decide) ?_
  refine g_bipushV (v := 7) dX10_isDial_2 (by decide) ?_
  refine g_callS (d1 := d - 1) (As := [_, _, _]) dX10_isDial_4 sX10_100 (by omega) rfl rfl (Nat.le_of_ble_eq_true rfl) ?_
  refine m_isIn ?_
  refine g_zret dX10_isDial_7 rfl (zb_of (fIn_01 _ _ _)) ?_
  exact k
set_option maxHeartbeats 4000000 in
set_option maxRecDepth 20000 in
theorem m_isRow {g : GE} {d : Nat} {w : GW} {Q : Option Value → GW → Prop} (hd : 1 ≤ d) {v : Int32} (k : Q (some (.int (fIn v 0 17))) w) : gM g d mX10_isRow [.int v] w Q := by
  refine gM.of (by decide) (Nat.le_of_ble_eq_true rfl) ?_
  refine g_iload_n dX10_isRow_0 rfl ?_
  refine g_iconstV (v := 0) dX10_isRow_1 (by decide) ?_
  refine g_bipushV (v := 17) dX10_isRow_2 (by decide) ?_
  refine g_callS (d1 := d - 1) (As := [_, _, _]) dX10_isRow_4 sX10_100 (by omega) rfl rfl (Nat.le_of_ble_eq_true rfl) ?_
  refine m_isIn ?_
  refine g_zret dX10_isRow_7 rfl (zb_of (fIn_01 _ _ _)) ?_
  exact k
def fBlock (v : Int32) : Int32 := if v = 1 then 1 else if v = 4 then 1 else if v = 11 then 1 else 0
set_option maxHeartbeats 4000000 in
set_option maxRecDepth 20000 in
theorem m_isBlock {g : GE} {d : Nat} {w : GW} {Q : Option Value → GW → Prop} {v : Int32} (k : Q (some (.int (fBlock v))) w) : gM g d mX10_isBlock [.int v] w Q := by
  refine gM.of (by decide) (Nat.le_of_ble_eq_true rfl) ?_
  refine g_iload_n dX10_isBlock_0 rfl ?_
  refine g_iconstV (v := 1) dX10_isBlock_1 (by decide) ?_
  refine g_icmp_eq 16 dX10_isBlock_2 (by decide) (fun c1 => ?_) (fun c1 => ?_)
  · refine g_iconstV (v := 1) dX10_isBlock_16 (by decide) ?_
    refine g_goto 21 dX10_isBlock_17 (by decide) ?_
    refine g_zret dX10_isBlock_21 rfl rfl ?_
    simpa [fBlock, c1] using k
  · refine g_iload_n dX10_isBlock_5 rfl ?_
    refine g_iconstV (v := 4) dX10_isBlock_6 (by decide) ?_
    refine g_icmp_eq 16 dX10_isBlock_7 (by decide) (fun c2 => ?_) (fun c2 => ?_)
    · refine g_iconstV (v := 1) dX10_isBlock_16 (by decide) ?_
      refine g_goto 21 dX10_isBlock_17 (by decide) ?_
      refine g_zret dX10_isBlock_21 rfl rfl ?_
      simpa [fBlock, c1, c2] using k
    · refine g_iload_n dX10_isBlock_10 rfl ?_
      refine g_bipushV (v := 11) dX10_isBlock_11 (by decide) ?_
      refine g_icmp_ne 20 dX10_isBlock_13 (by decide) (fun c3 => ?_) (fun c3 => ?_)
      · refine g_iconstV (v := 0) dX10_isBlock_20 (by decide) ?_
        refine g_zret dX10_isBlock_21 rfl rfl ?_
        simpa [fBlock, c1, c2, c3] using k
      · refine g_iconstV (v := 1) dX10_isBlock_16 (by decide) ?_
        refine g_goto 21 dX10_isBlock_17 (by decide) ?_
        refine g_zret dX10_isBlock_21 rfl rfl ?_
        simpa [fBlock, c1, c2, c3] using k
def mPush (σ : MW) (o : Nat) (kd sp lf : Int32) : MW := sI (sA (sA (sA (sA (sA σ 21 o kd) 22 o sp) 23 o lf) 24 o (-1)) 25 o 0) 29 (nI (o + 1))
set_option maxHeartbeats 4000000 in
set_option maxRecDepth 20000 in
theorem m_push {g : GE} {d : Nat} {w : GW} {σ : MW} {Q : Option Value → GW → Prop} (hS : SK g w) {o : Nat} {kd sp lf : Int32} (ho : mI σ 29 = nI o) (ho2 : o < 60) (k : Q none (put g (mPush σ o kd sp lf) w)) : gM g d mX10_push [.ref (eB g + 70), .int kd, .int sp, .int lf] (put g σ w) Q := by
  refine gM.of (by decide) (Nat.le_of_ble_eq_true rfl) ?_
  refine g_aload_n dX10_push_0 rfl ?_
  refine mg_getA 24 21 dX10_push_1 fX10_79 rfl rt_21 hS ?_
  refine g_aload_n dX10_push_4 rfl ?_
  refine mg_getI 29 dX10_push_5 fX10_156 rfl (by decide) hS ?_
  refine g_iload_n dX10_push_8 rfl ?_
  refine mg_iast dX10_push_9 (by first | exact rfl | assumption) rfl rfl (by omega) hS ?_
  refine g_aload_n dX10_push_10 rfl ?_
  refine mg_getA 25 22 dX10_push_11 fX10_82 rfl rt_22 hS ?_
  refine g_aload_n dX10_push_14 rfl ?_
  refine mg_getI 29 dX10_push_15 fX10_156 rfl (by decide) hS ?_
  refine g_iload_n dX10_push_18 rfl ?_
  refine mg_iast dX10_push_19 (by first | exact rfl | assumption) rfl rfl (by omega) hS ?_
  refine g_aload_n dX10_push_20 rfl ?_
  refine mg_getA 26 23 dX10_push_21 fX10_85 rfl rt_23 hS ?_
  refine g_aload_n dX10_push_24 rfl ?_
  refine mg_getI 29 dX10_push_25 fX10_156 rfl (by decide) hS ?_
  refine g_iload_n dX10_push_28 rfl ?_
  refine mg_iast dX10_push_29 (by first | exact rfl | assumption) rfl rfl (by omega) hS ?_
  refine g_aload_n dX10_push_30 rfl ?_
  refine mg_getA 27 24 dX10_push_31 fX10_88 rfl rt_24 hS ?_
  refine g_aload_n dX10_push_34 rfl ?_
  refine mg_getI 29 dX10_push_35 fX10_156 rfl (by decide) hS ?_
  refine g_iconstV (v := -1) dX10_push_38 (by decide) ?_
  refine mg_iast dX10_push_39 (by first | exact rfl | assumption) rfl rfl (by omega) hS ?_
  refine g_aload_n dX10_push_40 rfl ?_
  refine mg_getA 28 25 dX10_push_41 fX10_91 rfl rt_25 hS ?_
  refine g_aload_n dX10_push_44 rfl ?_
  refine mg_getI 29 dX10_push_45 fX10_156 rfl (by decide) hS ?_
  refine g_iconstV (v := 0) dX10_push_48 (by decide) ?_
  refine mg_iast dX10_push_49 (by first | exact rfl | assumption) rfl rfl (by omega) hS ?_
  refine g_aload_n dX10_push_50 rfl ?_
  refine g_dup dX10_push_51 rfl ?_
  refine mg_getI 29 dX10_push_52 fX10_156 rfl (by decide) hS ?_
  refine g_iconstV (v := 1) dX10_push_55 (by decide) ?_
  refine g_iadd dX10_push_56 ?_
  refine mg_putI 29 dX10_push_57 fX10_156 rfl (by decide) hS ?_
  refine g_vret dX10_push_60 rfl ?_
  have e : mI σ 29 + 1 = nI (o + 1) := by rw [ho]; exact nI_1 o
  exact e ▸ k
def mBegin (σ : MW) (o r : Nat) (bh : Int32) : MW := sI (mPush σ o 0 (nI r) bh) 30 (nI (40 * r))
set_option maxHeartbeats 4000000 in
set_option maxRecDepth 20000 in
theorem m_begin {g : GE} {d : Nat} {w : GW} {σ : MW} {Q : Option Value → GW → Prop} (hd : 1 ≤ d) (hS : SK g w) {o r : Nat} {bh : Int32} (ho : mI σ 29 = nI o) (ho2 : o < 60) (k : Q none (put g (mBegin σ o r bh) w)) : gM g d mX10_begin [.ref (eB g + 70), .int (nI r), .int bh] (put g σ w) Q := by
  refine gM.of (by decide) (Nat.le_of_ble_eq_true rfl) ?_
  refine g_aload_n dX10_begin_0 rfl ?_
  refine g_iconstV (v := 0) dX10_begin_1 (by decide) ?_
  refine g_iload_n dX10_begin_2 rfl ?_
  refine g_iload_n dX10_begin_3 rfl ?_
  refine g_callV (d1 := d - 1) (As := [_, _, _]) 9 dX10_begin_4 vX10_159 (by omega) (mg_ob hS) rfl rfl (Nat.le_of_ble_eq_true rfl) ?_
  refine m_push hS ho ho2 ?_
  refine g_aload_n dX10_begin_7 rfl ?_
  refine g_bipushV (v := 40) dX10_begin_8 (by decide) ?_
  refine g_iload_n dX10_begin_10 rfl ?_
  refine g_imul dX10_begin_11 ?_
  refine mg_putI 30 dX10_begin_12 fX10_141 rfl (by decide) hS ?_
  refine g_vret dX10_begin_15 rfl ?_
  have e : (40 : Int32) * nI r = nI (40 * r) := pk_mul 40 r
  exact e ▸ k
def mOver (σ : MW) (o : Nat) : MW := sI (sI (sI (sI σ 29 (nI o)) 30 (mA σ 23 o)) 33 (mI σ 33 - 1)) 31 0
set_option maxHeartbeats 4000000 in
set_option maxRecDepth 20000 in
theorem m_over {g : GE} {d : Nat} {w : GW} {σ : MW} {Q : Option Value → GW → Prop} (hS : SK g w) {o : Nat} (ho : mI σ 29 = nI (o + 1)) (ho2 : o < 60) (k : Q none (put g (mOver σ o) w)) : gM g d mX10_over [.ref (eB g + 70)] (put g σ w) Q := by
  refine gM.of (by decide) (Nat.le_of_ble_eq_true rfl) ?_
  refine g_aload_n dX10_over_0 rfl ?_
  refine g_dup dX10_over_1 rfl ?_
  refine mg_getI 29 dX10_over_2 fX10_156 rfl (by decide) hS ?_
  refine g_iconstV (v := 1) dX10_over_5 (by decide) ?_
  refine g_isub dX10_over_6 ?_
  rw [show mI σ 29 - 1 = nI o by rw [ho]; exact nI_pred o]
  refine mg_putI 29 dX10_over_7 fX10_156 rfl (by decide) hS ?_
  refine g_aload_n dX10_over_10 rfl ?_
  refine g_aload_n dX10_over_11 rfl ?_
  refine mg_getA 26 23 dX10_over_12 fX10_85 rfl rt_23 hS ?_
  refine g_aload_n dX10_over_15 rfl ?_
  refine mg_getI 29 dX10_over_16 fX10_156 rfl (by decide) hS ?_
  refine mg_iald dX10_over_19 (by first | exact rfl | assumption) rfl rfl (by omega) hS ?_
  refine mg_putI 30 dX10_over_20 fX10_141 rfl (by decide) hS ?_
  refine g_aload_n dX10_over_23 rfl ?_
  refine g_dup dX10_over_24 rfl ?_
  refine mg_getI 33 dX10_over_25 fX10_163 rfl (by decide) hS ?_
  refine g_iconstV (v := 1) dX10_over_28 (by decide) ?_
  refine g_isub dX10_over_29 ?_
  refine mg_putI 33 dX10_over_30 fX10_163 rfl (by decide) hS ?_
  refine g_aload_n dX10_over_33 rfl ?_
  refine g_iconstV (v := 0) dX10_over_34 (by decide) ?_
  refine mg_putI 31 dX10_over_35 fX10_138 rfl (by decide) hS ?_
  refine g_vret dX10_over_38 rfl ?_
  exact k
def mThrow (σ : MW) (n : Nat) (kd pl nu be em : Int32) : MW := sI (sI (sI (sA (sA (sA (sA (sA σ 16 n kd) 17 n pl) 18 n nu) 19 n be) 20 n em) 32 (nI n)) 31 3) 22 (nI (n + 1))
set_option maxHeartbeats 4000000 in
set_option maxRecDepth 20000 in
theorem m_throwNew {g : GE} {d : Nat} {w : GW} {σ : MW} {Q : Option Value → GW → Prop} (hS : SK g w) {n : Nat} {kd pl nu be em : Int32} (hn : mI σ 22 = nI n) (hn2 : n < 600) (hb : (be < 0 ∧ em = 0) ∨ ∃ p : Nat, p < n ∧ be = nI p ∧ em = mA σ 20 p + 1) (k : Q none (put g (mThrow σ n kd pl nu be em) w)) : gM g d mX10_throwNew [.ref (eB g + 70), .int kd, .int pl, .int nu, .int be] (put g σ w) Q := by
  refine gM.of (by decide) (Nat.le_of_ble_eq_true rfl) ?_
  refine g_aload_n dX10_throwNew_0 rfl ?_
  refine mg_getA 17 16 dX10_throwNew_1 fX10_60 rfl rt_16 hS ?_
  refine g_aload_n dX10_throwNew_4 rfl ?_
  refine mg_getI 22 dX10_throwNew_5 fX10_132 rfl (by decide) hS ?_
  refine g_iload_n dX10_throwNew_8 rfl ?_
  refine mg_iast dX10_throwNew_9 (by first | exact rfl | assumption) rfl rfl (by omega) hS ?_
  refine g_aload_n dX10_throwNew_10 rfl ?_
  refine mg_getA 18 17 dX10_throwNew_11 fX10_63 rfl rt_17 hS ?_
  refine g_aload_n dX10_throwNew_14 rfl ?_
  refine mg_getI 22 dX10_throwNew_15 fX10_132 rfl (by decide) hS ?_
  refine g_iload_n dX10_throwNew_18 rfl ?_
  refine mg_iast dX10_throwNew_19 (by first | exact rfl | assumption) rfl rfl (by omega) hS ?_
  refine g_aload_n dX10_throwNew_20 rfl ?_
  refine mg_getA 19 18 dX10_throwNew_21 fX10_66 rfl rt_18 hS ?_
  refine g_aload_n dX10_throwNew_24 rfl ?_
  refine mg_getI 22 dX10_throwNew_25 fX10_132 rfl (by decide) hS ?_
  refine g_iload_n dX10_throwNew_28 rfl ?_
  refine mg_iast dX10_throwNew_29 (by first | exact rfl | assumption) rfl rfl (by omega) hS ?_
  refine g_aload_n dX10_throwNew_30 rfl ?_
  refine mg_getA 20 19 dX10_throwNew_31 fX10_69 rfl rt_19 hS ?_
  refine g_aload_n dX10_throwNew_34 rfl ?_
  refine mg_getI 22 dX10_throwNew_35 fX10_132 rfl (by decide) hS ?_
  refine g_iload dX10_throwNew_38 rfl ?_
  refine mg_iast dX10_throwNew_40 (by first | exact rfl | assumption) rfl rfl (by omega) hS ?_
  refine g_aload_n dX10_throwNew_41 rfl ?_
  refine mg_getA 21 20 dX10_throwNew_42 fX10_72 rfl rt_20 hS ?_
  refine g_aload_n dX10_throwNew_45 rfl ?_
  refine mg_getI 22 dX10_throwNew_46 fX10_132 rfl (by decide) hS ?_
  refine g_iload dX10_throwNew_49 rfl ?_
  refine g_if_ge 58 dX10_throwNew_51 (by decide) (fun c1 => ?_) (fun c1 => ?_)
  · obtain ⟨p, hp, hbp, hem⟩ := hb.resolve_left (fun q => by have h1 := q.1; exact absurd c1 (by rw [Int32.not_le]; exact h1))
    refine g_aload_n dX10_throwNew_58 rfl ?_
    refine mg_getA 21 20 dX10_throwNew_59 fX10_72 rfl rt_20 hS ?_
    refine g_iload dX10_throwNew_62 rfl ?_
    refine mg_iald dX10_throwNew_64 hbp rfl rfl (by omega) hS ?_
    refine g_iconstV (v := 1) dX10_throwNew_65 (by decide) ?_
    refine g_iadd dX10_throwNew_66 ?_
    refine mg_iast dX10_throwNew_67 (by first | exact rfl | assumption) rfl rfl (by omega) hS ?_
    refine g_aload_n dX10_throwNew_68 rfl ?_
    refine g_aload_n dX10_throwNew_69 rfl ?_
    refine mg_getI 22 dX10_throwNew_70 fX10_132 rfl (by decide) hS ?_
    refine mg_putI 32 dX10_throwNew_73 fX10_135 rfl (by decide) hS ?_
    refine g_aload_n dX10_throwNew_76 rfl ?_
    refine g_iconstV (v := 3) dX10_throwNew_77 (by decide) ?_
    refine mg_putI 31 dX10_throwNew_78 fX10_138 rfl (by decide) hS ?_
    refine g_aload_n dX10_throwNew_81 rfl ?_
    refine g_dup dX10_throwNew_82 rfl ?_
    refine mg_getI 22 dX10_throwNew_83 fX10_132 rfl (by decide) hS ?_
    refine g_iconstV (v := 1) dX10_throwNew_86 (by decide) ?_
    refine g_iadd dX10_throwNew_87 ?_
    refine mg_putI 22 dX10_throwNew_88 fX10_132 rfl (by decide) hS ?_
    refine g_vret dX10_throwNew_91 rfl ?_
    have e : mI σ 22 + 1 = nI (n + 1) := by rw [hn]; exact nI_1 n
    have e2 : mI σ 22 = nI n := hn
    first
      | (rw [hem] at k
         have k2 := k
         unfold mThrow at k2
         rw [← e, ← e2] at k2
         exact k2)
      | (have hb2 := (hb.resolve_right (fun ⟨p, hp, hbp, _⟩ => c1 (by rw [hbp]; exact nI_pos' (by omega)))).2
         rw [hb2] at k
         have k2 := k
         unfold mThrow at k2
         rw [← e, ← e2] at k2
         exact k2)
  · refine g_iconstV (v := 0) dX10_throwNew_54 (by decide) ?_
    refine g_goto 67 dX10_throwNew_55 (by decide) ?_
    refine mg_iast dX10_throwNew_67 (by first | exact rfl | assumption) rfl rfl (by omega) hS ?_
    refine g_aload_n dX10_throwNew_68 rfl ?_
    refine g_aload_n dX10_throwNew_69 rfl ?_
    refine mg_getI 22 dX10_throwNew_70 fX10_132 rfl (by decide) hS ?_
    refine mg_putI 32 dX10_throwNew_73 fX10_135 rfl (by decide) hS ?_
    refine g_aload_n dX10_throwNew_76 rfl ?_
    refine g_iconstV (v := 3) dX10_throwNew_77 (by decide) ?_
    refine mg_putI 31 dX10_throwNew_78 fX10_138 rfl (by decide) hS ?_
    refine g_aload_n dX10_throwNew_81 rfl ?_
    refine g_dup dX10_throwNew_82 rfl ?_
    refine mg_getI 22 dX10_throwNew_83 fX10_132 rfl (by decide) hS ?_
    refine g_iconstV (v := 1) dX10_throwNew_86 (by decide) ?_
    refine g_iadd dX10_throwNew_87 ?_
    refine mg_putI 22 dX10_throwNew_88 fX10_132 rfl (by decide) hS ?_
    refine g_vret dX10_throwNew_91 rfl ?_
    have e : mI σ 22 + 1 = nI (n + 1) := by rw [hn]; exact nI_1 n
    have e2 : mI σ 22 = nI n := hn
    first
      | (rw [hem] at k
         have k2 := k
         unfold mThrow at k2
         rw [← e, ← e2] at k2
         exact k2)
      | (have hb2 := (hb.resolve_right (fun ⟨p, hp, hbp, _⟩ => c1 (by rw [hbp]; exact nI_pos' (by omega)))).2
         rw [hb2] at k
         have k2 := k
         unfold mThrow at k2
         rw [← e, ← e2] at k2
         exact k2)
