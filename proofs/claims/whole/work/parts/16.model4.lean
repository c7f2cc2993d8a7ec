set_option maxHeartbeats 4000000 in
set_option maxRecDepth 20000 in
theorem m_weighed {g : GE} {d : Nat} {w : GW} {Q : Option Value → GW → Prop} {kind number plain : Int32} (k : Q (some (.int (fWeight kind number plain))) w) : gM g d mX10_weighed [.int kind, .int plain, .int number] w Q := by
  refine gM.of (by decide) (Nat.le_of_ble_eq_true rfl) ?_
  refine g_iload_n dX10_weighed_0 rfl ?_
  refine g_tsw dX10_weighed_1 [52, 81, 57, 81, 61, 66, 71, 81, 75] 81 (by decide) (by decide) (by decide) (by decide) (by decide) ?_ (fun c1 => ?_)
  · simp only [tswK]
    refine ⟨fun c1 => ?_, fun c1 => ?_, fun c1 => ?_, fun c1 => ?_, fun c1 => ?_, fun c1 => ?_, fun c1 => ?_, fun c1 => ?_, fun c1 => ?_, trivial⟩
    · replace c1 := c1.trans (by decide : _ = (3 : Int32))
      refine g_iload_n dX10_weighed_52 rfl ?_
      refine g_bipushV (v := 10) dX10_weighed_53 (by decide) ?_
      refine g_iadd dX10_weighed_55 ?_
      refine g_iret dX10_weighed_56 rfl ?_
      simpa [fWeight, c1] using k
    · replace c1 := c1.trans (by decide : _ = (4 : Int32))
      refine g_iload_n dX10_weighed_81 rfl ?_
      refine g_iret dX10_weighed_82 rfl ?_
      simpa [fWeight, c1] using k
    · replace c1 := c1.trans (by decide : _ = (5 : Int32))
      refine g_iconstV (v := 3) dX10_weighed_57 (by decide) ?_
      refine g_iload_n dX10_weighed_58 rfl ?_
      refine g_imul dX10_weighed_59 ?_
      refine g_iret dX10_weighed_60 rfl ?_
      simpa [fWeight, c1] using k
    · replace c1 := c1.trans (by decide : _ = (6 : Int32))
      refine g_iload_n dX10_weighed_81 rfl ?_
      refine g_iret dX10_weighed_82 rfl ?_
      simpa [fWeight, c1] using k
    · replace c1 := c1.trans (by decide : _ = (7 : Int32))
      refine g_iload_n dX10_weighed_61 rfl ?_
      refine g_bipushV (v := 100) dX10_weighed_62 (by decide) ?_
      refine g_iadd dX10_weighed_64 ?_
      refine g_iret dX10_weighed_65 rfl ?_
      simpa [fWeight, c1] using k
    · replace c1 := c1.trans (by decide : _ = (8 : Int32))
      refine g_iload_n dX10_weighed_66 rfl ?_
      refine g_bipushV (v := 105) dX10_weighed_67 (by decide) ?_
      refine g_iadd dX10_weighed_69 ?_
      refine g_iret dX10_weighed_70 rfl ?_
      simpa [fWeight, c1] using k
    · replace c1 := c1.trans (by decide : _ = (9 : Int32))
      refine g_iload_n dX10_weighed_71 rfl ?_
      refine g_iload_n dX10_weighed_72 rfl ?_
      refine g_iadd dX10_weighed_73 ?_
      refine g_iret dX10_weighed_74 rfl ?_
      simpa [fWeight, c1] using k
    · replace c1 := c1.trans (by decide : _ = (10 : Int32))
      refine g_iload_n dX10_weighed_81 rfl ?_
      refine g_iret dX10_weighed_82 rfl ?_
      simpa [fWeight, c1] using k
    · replace c1 := c1.trans (by decide : _ = (11 : Int32))
      refine g_iconstV (v := 2) dX10_weighed_75 (by decide) ?_
      refine g_iload_n dX10_weighed_76 rfl ?_
      refine g_iload_n dX10_weighed_77 rfl ?_
      refine g_iadd dX10_weighed_78 ?_
      refine g_imul dX10_weighed_79 ?_
      refine g_iret dX10_weighed_80 rfl ?_
      simpa [fWeight, c1] using k
  · have c1n0 := tsw_ne c1 3 (by decide)
    have c1n1 := tsw_ne c1 4 (by decide)
    have c1n2 := tsw_ne c1 5 (by decide)
    have c1n3 := tsw_ne c1 6 (by decide)
    have c1n4 := tsw_ne c1 7 (by decide)
    have c1n5 := tsw_ne c1 8 (by decide)
    have c1n6 := tsw_ne c1 9 (by decide)
    have c1n7 := tsw_ne c1 10 (by decide)
    have c1n8 := tsw_ne c1 11 (by decide)
    refine g_iload_n dX10_weighed_81 rfl ?_
    refine g_iret dX10_weighed_82 rfl ?_
    simpa [fWeight, c1n0, c1n1, c1n2, c1n3, c1n4, c1n5, c1n6, c1n7, c1n8] using k
/-- the sum before the round with k = i - 1: over the earlier ones from i on; 0 at i = n + 1 -/
def mSum (A : Nat → Nat → Int32) (f n i : Nat) : Int32 := if i = n + 1 then 0 else mWt A f i (n - i)
theorem mSum_step {A : Nat → Nat → Int32} {f n i : Nat} (h : i ≤ n) : mSum A f n i = fWeight (A 16 (mDown A f i)) (A 18 (mDown A f i)) (1 + mSum A f n (i + 1)) := by
  unfold mSum
  rw [if_neg (by omega)]
  by_cases e : i = n
  · subst e
    rw [if_pos rfl, Nat.sub_self]
    rfl
  · rw [if_neg (by omega), show n - i = (n - (i + 1)) + 1 by omega]
    rfl
set_option maxHeartbeats 4000000 in
set_option maxRecDepth 20000 in
theorem m_weight_loop {g : GE} {d : Nat} {w : GW} {σ : MW} {Q : Option Value → GW → Prop} (hd : 1 ≤ d) (hS : SK g w) {N f n : Nat} (hN : N ≤ 600) (hc : mChain (mA σ) N f n) (hn6 : n < 600) (k : Q (some (.int (mSum (mA σ) f n 0))) (put g σ w)) : ∀ i : Nat, i ≤ n + 1 → ∀ ls : List (Nat × Value), (ls = [(3, .int (nI i + Int32.ofInt (-1))), (2, .int (mSum (mA σ) f n i)), (4, .int (nI (mDown (mA σ) f i))), (0, .ref (eB g + 70)), (1, .int (nI f))] ∨ ls = [(3, .int (nI i + Int32.ofInt (-1))), (2, .int (mSum (mA σ) f n i)), (0, .ref (eB g + 70)), (1, .int (nI f))]) → gF g d mX10_weight 9 ls [] (put g σ w) Q
  | 0, hi, ls, hls => by
    have e0 : nI 0 + Int32.ofInt (-1) = -1 := by decide
    rw [e0] at hls
    rcases hls with rfl | rfl
    · refine g_iload_n dX10_weight_9 rfl ?_
      refine g_if_lt 48 dX10_weight_10 (by decide) (fun _ => ?_) (fun q => absurd (by decide) q)
      refine g_iload_n dX10_weight_48 rfl ?_
      refine g_iret dX10_weight_49 rfl ?_
      exact k
    · refine g_iload_n dX10_weight_9 rfl ?_
      refine g_if_lt 48 dX10_weight_10 (by decide) (fun _ => ?_) (fun q => absurd (by decide) q)
      refine g_iload_n dX10_weight_48 rfl ?_
      refine g_iret dX10_weight_49 rfl ?_
      exact k
  | i + 1, hi, ls, hls => by
    have e0 : nI (i + 1) + Int32.ofInt (-1) = nI i := pk_m1 i
    have hlt := hc.lt hN i (by omega)
    have hci : mChain (mA σ) N f i := ⟨hc.1, fun j hj => hc.2 j (by omega)⟩
    rw [e0] at hls
    clear e0
    rcases hls with rfl | rfl
    · refine g_iload_n dX10_weight_9 rfl ?_
      refine g_if_lt 48 dX10_weight_10 (by decide) (fun q => absurd q (nI_pos (by omega))) (fun _ => ?_)
      refine g_aload_n dX10_weight_13 rfl ?_
      refine g_iload_n dX10_weight_14 rfl ?_
      refine g_iload_n dX10_weight_15 rfl ?_
      refine g_callV (d1 := d - 1) (As := [_, _]) 9 dX10_weight_16 vX10_148 (by omega) (mg_ob hS) rfl rfl (Nat.le_of_ble_eq_true rfl) ?_
      refine m_below hS hN hci (by omega) ?_
      refine g_istore dX10_weight_19 (by decide) rfl ?_
      refine g_aload_n dX10_weight_21 rfl ?_
      refine mg_getA 17 16 dX10_weight_22 fX10_60 rfl rt_16 hS ?_
      refine g_iload dX10_weight_25 rfl ?_
      refine mg_iald dX10_weight_27 (by first | exact rfl | assumption) rfl rfl (by omega) hS ?_
      refine g_iconstV (v := 1) dX10_weight_28 (by decide) ?_
      refine g_iload_n dX10_weight_29 rfl ?_
      refine g_iadd dX10_weight_30 ?_
      refine g_aload_n dX10_weight_31 rfl ?_
      refine mg_getA 19 18 dX10_weight_32 fX10_66 rfl rt_18 hS ?_
      refine g_iload dX10_weight_35 rfl ?_
      refine mg_iald dX10_weight_37 (by first | exact rfl | assumption) rfl rfl (by omega) hS ?_
      refine g_callS (d1 := d - 1) (As := [_, _, _]) dX10_weight_38 sX10_152 (by omega) rfl rfl (Nat.le_of_ble_eq_true rfl) ?_
      refine m_weighed ?_
      rw [← mSum_step (show i ≤ n by omega)]
      refine g_istore_n dX10_weight_41 (by decide) rfl ?_
      refine g_iinc dX10_weight_42 rfl (by decide) rfl ?_
      refine g_goto 9 dX10_weight_45 (by decide) ?_
      exact m_weight_loop hd hS hN hc hn6 k i (by omega) _ (Or.inl rfl)
    · refine g_iload_n dX10_weight_9 rfl ?_
      refine g_if_lt 48 dX10_weight_10 (by decide) (fun q => absurd q (nI_pos (by omega))) (fun _ => ?_)
      refine g_aload_n dX10_weight_13 rfl ?_
      refine g_iload_n dX10_weight_14 rfl ?_
      refine g_iload_n dX10_weight_15 rfl ?_
      refine g_callV (d1 := d - 1) (As := [_, _]) 9 dX10_weight_16 vX10_148 (by omega) (mg_ob hS) rfl rfl (Nat.le_of_ble_eq_true rfl) ?_
      refine m_below hS hN hci (by omega) ?_
      refine g_istore dX10_weight_19 (by decide) rfl ?_
      refine g_aload_n dX10_weight_21 rfl ?_
      refine mg_getA 17 16 dX10_weight_22 fX10_60 rfl rt_16 hS ?_
      refine g_iload dX10_weight_25 rfl ?_
      refine mg_iald dX10_weight_27 (by first | exact rfl | assumption) rfl rfl (by omega) hS ?_
      refine g_iconstV (v := 1) dX10_weight_28 (by decide) ?_
      refine g_iload_n dX10_weight_29 rfl ?_
      refine g_iadd dX10_weight_30 ?_
      refine g_aload_n dX10_weight_31 rfl ?_
      refine mg_getA 19 18 dX10_weight_32 fX10_66 rfl rt_18 hS ?_
      refine g_iload dX10_weight_35 rfl ?_
      refine mg_iald dX10_weight_37 (by first | exact rfl | assumption) rfl rfl (by omega) hS ?_
      refine g_callS (d1 := d - 1) (As := [_, _, _]) dX10_weight_38 sX10_152 (by omega) rfl rfl (Nat.le_of_ble_eq_true rfl) ?_
      refine m_weighed ?_
      rw [← mSum_step (show i ≤ n by omega)]
      refine g_istore_n dX10_weight_41 (by decide) rfl ?_
      refine g_iinc dX10_weight_42 rfl (by decide) rfl ?_
      refine g_goto 9 dX10_weight_45 (by decide) ?_
      exact m_weight_loop hd hS hN hc hn6 k i (by omega) _ (Or.inl rfl)
set_option maxHeartbeats 4000000 in
set_option maxRecDepth 20000 in
theorem m_weight {g : GE} {d : Nat} {w : GW} {σ : MW} {Q : Option Value → GW → Prop} (hd : 1 ≤ d) (hS : SK g w) {N f n : Nat} (hN : N ≤ 600) (hc : mChain (mA σ) N f n) (hn6 : n < 600) (hm : mA σ 20 f = nI n) (k : Q (some (.int (mWt (mA σ) f 0 n))) (put g σ w)) : gM g d mX10_weight [.ref (eB g + 70), .int (nI f)] (put g σ w) Q := by
  refine gM.of (by decide) (Nat.le_of_ble_eq_true rfl) ?_
  have hf := hc.1
  have e0 : nI (n + 1) + Int32.ofInt (-1) = nI n := pk_m1 n
  have k2 : Q (some (.int (mSum (mA σ) f n 0))) (put g σ w) := by unfold mSum; rw [if_neg (by omega), Nat.sub_zero]; exact k
  have es : mSum (mA σ) f n (n + 1) = 0 := by unfold mSum; rw [if_pos rfl]
  refine g_iconstV (v := 0) dX10_weight_0 (by decide) ?_
  refine g_istore_n dX10_weight_1 (by decide) rfl ?_
  refine g_aload_n dX10_weight_2 rfl ?_
  refine mg_getA 21 20 dX10_weight_3 fX10_72 rfl rt_20 hS ?_
  refine g_iload_n dX10_weight_6 rfl ?_
  refine mg_iald dX10_weight_7 (by first | exact rfl | assumption) rfl rfl (by omega) hS ?_
  rw [hm, ← e0]
  refine g_istore_n dX10_weight_8 (by decide) rfl ?_
  exact m_weight_loop hd hS hN hc hn6 k2 (n + 1) (by omega) _ (Or.inr (by rw [es]; rfl))
def aTab (k : Nat) : Int32 := match k with | 2 => 1 | 3 => 2 | 4 => 2 | 5 => 2 | 6 => 1 | 7 => 6 | 8 => 6 | 9 => 1 | 10 => 1 | 11 => 9 | _ => 0
/-- is the kind k under 'over', looking up at most n times -/
def fU (over : Int32) : Nat → Nat → Int32
  | 0, _ => 0
  | n + 1, k => if k = 0 then 0 else if nI k = over then 1 else fU over n (aTab k).toNatClampNeg
theorem aTab_nI : ∀ k, k < 12 → aTab k = nI (aTab k).toNatClampNeg ∧ (aTab k).toNatClampNeg < 12 := by decide +kernel
set_option maxHeartbeats 4000000 in
set_option maxRecDepth 20000 in
theorem m_isUnder_loop {g : GE} {d : Nat} {w : GW} {σ : MW} {Q : Option Value → GW → Prop} (hS : SK g w) (ha : ∀ j, j < 12 → mA σ 27 j = aTab j) {kd over : Int32} : ∀ m i k0 : Nat, i + m = 4 → k0 < 12 → Q (some (.int (fU over m k0))) (put g σ w) → gF g d mX10_isUnder 5 [(4, .int (nI i)), (3, .int (nI k0)), (0, .ref (eB g + 70)), (1, .int kd), (2, .int over)] [] (put g σ w) Q
  | 0, i, k0, hi, hk, k => by
    have e : i = 4 := by omega
    subst e
    refine g_iload dX10_isUnder_5 rfl ?_
    refine g_iconstV (v := 4) dX10_isUnder_7 (by decide) ?_
    refine g_icmp_ge 35 dX10_isUnder_8 (by decide) (fun _ => ?_) (fun q => absurd (by decide) q)
    refine g_iconstV (v := 0) dX10_isUnder_35 (by decide) ?_
    refine g_zret dX10_isUnder_36 rfl rfl ?_
    exact k
  | m + 1, i, k0, hi, hk, k => by
    have hi4 : ¬ (4 : Int32) ≤ nI i := nI_ge (b := 4) (by omega) (by decide)
    obtain ⟨ea, eb⟩ := aTab_nI k0 hk
    refine g_iload dX10_isUnder_5 rfl ?_
    refine g_iconstV (v := 4) dX10_isUnder_7 (by decide) ?_
    refine g_icmp_ge 35 dX10_isUnder_8 (by decide) (fun q => absurd q (hi4)) (fun _ => ?_)
    refine g_iload_n dX10_isUnder_11 rfl ?_
    refine g_if_le 35 dX10_isUnder_12 (by decide) (fun c1 => ?_) (fun c1 => ?_)
    · refine g_iconstV (v := 0) dX10_isUnder_35 (by decide) ?_
      refine g_zret dX10_isUnder_36 rfl rfl ?_
      first
        | (have hk0 : ¬ k0 = 0 := (fun q => c1 (by subst q; decide)); rw [fU, if_neg hk0, if_pos c2] at k; exact k)
        | (have hk0 : k0 = 0 := (by rcases Nat.eq_zero_or_pos k0 with q | q; exact q; exact absurd c1 (nI_nle q (by omega))); rw [fU, if_pos hk0] at k; exact k)
    · refine g_iload_n dX10_isUnder_15 rfl ?_
      refine g_iload_n dX10_isUnder_16 rfl ?_
      refine g_icmp_ne 22 dX10_isUnder_17 (by decide) (fun c2 => ?_) (fun c2 => ?_)
      · refine g_aload_n dX10_isUnder_22 rfl ?_
        refine mg_getA 39 27 dX10_isUnder_23 fX10_97 rfl rt_27 hS ?_
        refine g_iload_n dX10_isUnder_26 rfl ?_
        refine mg_iald dX10_isUnder_27 (by first | exact rfl | assumption) rfl rfl (by omega) hS ?_
        rw [ha k0 hk, ea]
        refine g_istore_n (lz := [(3, .int (nI (aTab k0).toNatClampNeg)), (4, .int (nI i)), (0, .ref (eB g + 70)), (1, .int kd), (2, .int over)]) dX10_isUnder_28 (by decide) rfl ?_
        refine g_iinc (lz := [(4, .int (nI (i + 1))), (3, .int (nI (aTab k0).toNatClampNeg)), (0, .ref (eB g + 70)), (1, .int kd), (2, .int over)]) dX10_isUnder_29 rfl (by decide) (by rw [show nI i + Int32.ofInt 1 = nI (i + 1) from nI_1 i]; rfl) ?_
        refine g_goto 5 dX10_isUnder_32 (by decide) ?_
        have hk0 : ¬ k0 = 0 := fun q => c1 (by subst q; decide)
        rw [fU, if_neg hk0, if_neg c2] at k
        exact m_isUnder_loop hS ha m (i + 1) _ (by omega) eb k
      · refine g_iconstV (v := 1) dX10_isUnder_20 (by decide) ?_
        refine g_zret dX10_isUnder_21 rfl rfl ?_
        first
          | (have hk0 : ¬ k0 = 0 := (fun q => c1 (by subst q; decide)); rw [fU, if_neg hk0, if_pos c2] at k; exact k)
          | (have hk0 : k0 = 0 := (by rcases Nat.eq_zero_or_pos k0 with q | q; exact q; exact absurd c1 (nI_nle q (by omega))); rw [fU, if_pos hk0] at k; exact k)
set_option maxHeartbeats 4000000 in
set_option maxRecDepth 20000 in
theorem m_isUnder {g : GE} {d : Nat} {w : GW} {σ : MW} {Q : Option Value → GW → Prop} (hS : SK g w) {k0 : Nat} {over : Int32} (ha : ∀ j, j < 12 → mA σ 27 j = aTab j) (hk : k0 < 12) (k : Q (some (.int (fU over 4 k0))) (put g σ w)) : gM g d mX10_isUnder [.ref (eB g + 70), .int (nI k0), .int over] (put g σ w) Q := by
  refine gM.of (by decide) (Nat.le_of_ble_eq_true rfl) ?_
  refine g_iload_n dX10_isUnder_0 rfl ?_
  refine g_istore_n dX10_isUnder_1 (by decide) rfl ?_
  refine g_iconstV (v := 0) dX10_isUnder_2 (by decide) ?_
  refine g_istore dX10_isUnder_3 (by decide) rfl ?_
  exact m_isUnder_loop hS ha 4 0 k0 (by omega) hk k
