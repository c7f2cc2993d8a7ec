/-! ===== a step is appended: the model ===== -/
theorem mg_getIv {g : GE} {d : Nat} {Y : GM} {pc : Nat} {ls : List (Nat × Value)} {st : List Value} {w : GW} {σ : MW} {Q : Option Value → GW → Prop} {idx : Nat} {x : Int32} (f : Nat) (hd : decode Y.2.1 pc = .ok (.getfield idx, 3)) (hf : gfl Y.1.cls idx 9 f false) (hti : gTI 9 f = true) (hf4 : f < 40) (hS : SK g w) (hx : mI σ f = x) (k : gF g d Y (pc + 3) ls (.int x :: st) (put g σ w) Q) : gF g d Y pc ls (.ref (eB g + 70) :: st) (put g σ w) Q := mg_getI f hd hf hti hf4 hS (by rw [hx]; exact k)
def mSt (σ : MW) (r s : Nat) (v a b c : Int32) : MW := sA (sA (sA (sA (sA σ 0 (40 * r + s) v) 1 (40 * r + s) a) 2 (40 * r + s) b) 3 (40 * r + s) c) 6 r (nI (s + 1))
def mStO (σ : MW) (r s D : Nat) : MW := sA (sA (sA (sA σ 8 (6 * r + D) (nI (40 * r + s))) 9 (6 * r + D) (nI (40 * r + s))) 10 (6 * r + D) 0) 7 r (nI (D + 1))
def mStP (σ : MW) (r s D p : Nat) (x : Int32) : MW := sA (sA (sA σ 5 p (nI (40 * r + s))) 9 (6 * r + D) (nI (40 * r + s))) 10 (6 * r + D) x
def mStE (σ : MW) (r s D o : Nat) : MW := sA (sA σ 4 o (nI (40 * r + s))) 7 r (nI D)
theorem mSt_eq (σ : MW) (r s : Nat) (v a b c : Int32) : sA (sA (sA (sA (sA σ 0 (40 * r + s) v) 1 (40 * r + s) a) 2 (40 * r + s) b) 3 (40 * r + s) c) 6 r (nI (s + 1)) = mSt σ r s v a b c := rfl
theorem mSt_old (σ : MW) (r s : Nat) (v a b c : Int32) (j i : Nat) (hj : 4 ≤ j ∧ ¬ j = 6) : mA (mSt σ r s v a b c) j i = mA σ j i := by
  unfold mSt
  rw [mA_sA, if_neg (by omega), mA_sA, if_neg (by omega), mA_sA, if_neg (by omega), mA_sA, if_neg (by omega), mA_sA, if_neg (by omega)]
theorem mSt_6 (σ : MW) (r s : Nat) (v a b c : Int32) : mA (mSt σ r s v a b c) 6 r = nI (s + 1) := by
  unfold mSt
  rw [mA_sA, if_pos ⟨rfl, rfl⟩]
theorem m_told {g : GE} {d : Nat} {w : GW} {Q : Option Value → GW → Prop} (hd : 2 ≤ d) {v : Nat} {a b c : Int32} (hv : v < 25) (k : Q (some (.int (fT v a b c))) w) : gM g d mX10_areTold [.int (nI v), .int a, .int b, .int c] w Q := by
  refine m_areTold hd (fun j hj e => ?_) (fun h => absurd h (by rw [nI_toInt (by omega)]; omega))
  obtain rfl : v = j := (nI_eq (by omega) (by omega)).mp e
  exact k
set_option maxHeartbeats 4000000 in
set_option maxRecDepth 20000 in
theorem m_stepNo1 {g : GE} {d : Nat} {w : GW} {σ : MW} {Q : Option Value → GW → Prop} (hd : 3 ≤ d) (hS : SK g w) {r s : Nat} {bs : List (Nat × Nat × Nat)} (hX : MX σ r bs) (hLp : ∀ j, j < bs.length → mA σ 0 (40 * r + (nth bs j).1) = 4 → ¬ mA σ 0 (40 * r + (nth bs j).2.1) = 3) {v : Nat} {a b c : Int32} (hv : v < 25) (ht : fT v a b c = 0) (k : Q (some (.int (-1))) (put g σ w)) : gM g d mX10_step [.ref (eB g + 70), .int (nI v), .int a, .int b, .int c] (put g σ w) Q := by
  refine gM.of (by decide) (Nat.le_of_ble_eq_true rfl) ?_
  obtain ⟨hR, hr4, hD, hL, hK⟩ := id hX
  have e4 : ∀ k, (40 : Int32) * nI r + nI k = nI (40 * r + k) := fun k => by rw [show (40 : Int32) = nI 40 from rfl, pk_mul, nI_add]
  have e6 : ∀ k, (6 : Int32) * nI r + nI k = nI (6 * r + k) := fun k => by rw [show (6 : Int32) = nI 6 from rfl, pk_mul, nI_add]
  have hR2 : ∀ τ : MW, mI τ 11 = mI σ 11 → mI τ 11 = nI r := fun τ h => h.trans hR
  refine g_iload_n dX10_step_0 rfl ?_
  refine g_iload_n dX10_step_1 rfl ?_
  refine g_iload_n dX10_step_2 rfl ?_
  refine g_iload dX10_step_3 rfl ?_
  refine g_callS (d1 := d - 1) (As := [_, _, _, _]) dX10_step_5 sX10_125 (by omega) rfl rfl (Nat.le_of_ble_eq_true rfl) ?_
  refine m_told (by omega) hv ?_
  refine g_if_ne 13 dX10_step_8 (by decide) (fun q => absurd (ht) q) (fun _ => ?_)
  refine g_iconstV (v := -1) dX10_step_11 (by decide) ?_
  refine g_iret dX10_step_12 rfl ?_
  exact k
set_option maxHeartbeats 4000000 in
set_option maxRecDepth 20000 in
theorem m_stepNo2 {g : GE} {d : Nat} {w : GW} {σ : MW} {Q : Option Value → GW → Prop} (hd : 3 ≤ d) (hS : SK g w) {r s : Nat} {bs : List (Nat × Nat × Nat)} (hX : MX σ r bs) (hLp : ∀ j, j < bs.length → mA σ 0 (40 * r + (nth bs j).1) = 4 → ¬ mA σ 0 (40 * r + (nth bs j).2.1) = 3) {v : Nat} {a b c : Int32} (hv : v < 25) (ht : fT v a b c = 1) (hm : fMay (fun i => mA σ 0 (40 * r + i)) v bs = 0) (k : Q (some (.int (-2))) (put g σ w)) : gM g d mX10_step [.ref (eB g + 70), .int (nI v), .int a, .int b, .int c] (put g σ w) Q := by
  refine gM.of (by decide) (Nat.le_of_ble_eq_true rfl) ?_
  obtain ⟨hR, hr4, hD, hL, hK⟩ := id hX
  have e4 : ∀ k, (40 : Int32) * nI r + nI k = nI (40 * r + k) := fun k => by rw [show (40 : Int32) = nI 40 from rfl, pk_mul, nI_add]
  have e6 : ∀ k, (6 : Int32) * nI r + nI k = nI (6 * r + k) := fun k => by rw [show (6 : Int32) = nI 6 from rfl, pk_mul, nI_add]
  have hR2 : ∀ τ : MW, mI τ 11 = mI σ 11 → mI τ 11 = nI r := fun τ h => h.trans hR
  refine g_iload_n dX10_step_0 rfl ?_
  refine g_iload_n dX10_step_1 rfl ?_
  refine g_iload_n dX10_step_2 rfl ?_
  refine g_iload dX10_step_3 rfl ?_
  refine g_callS (d1 := d - 1) (As := [_, _, _, _]) dX10_step_5 sX10_125 (by omega) rfl rfl (Nat.le_of_ble_eq_true rfl) ?_
  refine m_told (by omega) hv ?_
  refine g_if_ne 13 dX10_step_8 (by decide) (fun _ => ?_) (fun q => absurd q (by rw [ht]; decide))
  refine g_aload_n dX10_step_13 rfl ?_
  refine g_iload_n dX10_step_14 rfl ?_
  refine g_callV (d1 := d - 1) (As := [_]) 9 dX10_step_15 vX10_129 (by omega) (mg_ob hS) rfl rfl (Nat.le_of_ble_eq_true rfl) ?_
  refine m_mayStand (by omega) hS hX hLp hv ?_
  refine g_if_ne 24 dX10_step_18 (by decide) (fun q => absurd (hm) q) (fun _ => ?_)
  refine g_bipushV (v := -2) dX10_step_21 (by decide) ?_
  refine g_iret dX10_step_23 rfl ?_
  exact k
set_option maxHeartbeats 4000000 in
set_option maxRecDepth 20000 in
theorem m_stepNo3 {g : GE} {d : Nat} {w : GW} {σ : MW} {Q : Option Value → GW → Prop} (hd : 3 ≤ d) (hS : SK g w) {r s : Nat} {bs : List (Nat × Nat × Nat)} (hX : MX σ r bs) (hLp : ∀ j, j < bs.length → mA σ 0 (40 * r + (nth bs j).1) = 4 → ¬ mA σ 0 (40 * r + (nth bs j).2.1) = 3) {v : Nat} {a b c : Int32} (hv : v < 25) (ht : fT v a b c = 1) (hm : fMay (fun i => mA σ 0 (40 * r + i)) v bs = 1) (hs : mA σ 6 r = nI s) (h40 : s = 40) (k : Q (some (.int (-3))) (put g σ w)) : gM g d mX10_step [.ref (eB g + 70), .int (nI v), .int a, .int b, .int c] (put g σ w) Q := by
  refine gM.of (by decide) (Nat.le_of_ble_eq_true rfl) ?_
  obtain ⟨hR, hr4, hD, hL, hK⟩ := id hX
  have e4 : ∀ k, (40 : Int32) * nI r + nI k = nI (40 * r + k) := fun k => by rw [show (40 : Int32) = nI 40 from rfl, pk_mul, nI_add]
  have e6 : ∀ k, (6 : Int32) * nI r + nI k = nI (6 * r + k) := fun k => by rw [show (6 : Int32) = nI 6 from rfl, pk_mul, nI_add]
  have hR2 : ∀ τ : MW, mI τ 11 = mI σ 11 → mI τ 11 = nI r := fun τ h => h.trans hR
  refine g_iload_n dX10_step_0 rfl ?_
  refine g_iload_n dX10_step_1 rfl ?_
  refine g_iload_n dX10_step_2 rfl ?_
  refine g_iload dX10_step_3 rfl ?_
  refine g_callS (d1 := d - 1) (As := [_, _, _, _]) dX10_step_5 sX10_125 (by omega) rfl rfl (Nat.le_of_ble_eq_true rfl) ?_
  refine m_told (by omega) hv ?_
  refine g_if_ne 13 dX10_step_8 (by decide) (fun _ => ?_) (fun q => absurd q (by rw [ht]; decide))
  refine g_aload_n dX10_step_13 rfl ?_
  refine g_iload_n dX10_step_14 rfl ?_
  refine g_callV (d1 := d - 1) (As := [_]) 9 dX10_step_15 vX10_129 (by omega) (mg_ob hS) rfl rfl (Nat.le_of_ble_eq_true rfl) ?_
  refine m_mayStand (by omega) hS hX hLp hv ?_
  refine g_if_ne 24 dX10_step_18 (by decide) (fun _ => ?_) (fun q => absurd q (by rw [hm]; decide))
  refine g_aload_n dX10_step_24 rfl ?_
  refine mg_getA 6 6 dX10_step_25 fX10_28 rfl rt_6 hS ?_
  refine g_aload_n dX10_step_28 rfl ?_
  refine mg_getIv (x := nI r) 11 dX10_step_29 fX10_104 rfl (by decide) hS hR ?_
  refine mg_iald dX10_step_32 rfl rfl rfl (by omega) hS ?_
  rw [hs]
  refine g_bipushV (v := 40) dX10_step_33 (by decide) ?_
  refine g_icmp_ne 41 dX10_step_35 (by decide) (fun q => absurd (by rw [h40]; rfl) q) (fun _ => ?_)
  refine g_bipushV (v := -3) dX10_step_38 (by decide) ?_
  refine g_iret dX10_step_40 rfl ?_
  exact k
set_option maxHeartbeats 4000000 in
set_option maxRecDepth 20000 in
theorem m_stepPlain {g : GE} {d : Nat} {w : GW} {σ : MW} {Q : Option Value → GW → Prop} (hd : 3 ≤ d) (hS : SK g w) {r s : Nat} {bs : List (Nat × Nat × Nat)} (hX : MX σ r bs) (hLp : ∀ j, j < bs.length → mA σ 0 (40 * r + (nth bs j).1) = 4 → ¬ mA σ 0 (40 * r + (nth bs j).2.1) = 3) {v : Nat} {a b c : Int32} (hv : v < 25) (ht : fT v a b c = 1) (hm : fMay (fun i => mA σ 0 (40 * r + i)) v bs = 1) (hs : mA σ 6 r = nI s) (h40 : s < 40) (hp : ¬ v = 0 ∧ ¬ v = 1 ∧ ¬ v = 2 ∧ ¬ v = 3 ∧ ¬ v = 4 ∧ ¬ v = 11) (k : Q (some (.int (nI (s + 1)))) (put g (mSt σ r s (nI v) a b c) w)) : gM g d mX10_step [.ref (eB g + 70), .int (nI v), .int a, .int b, .int c] (put g σ w) Q := by
  refine gM.of (by decide) (Nat.le_of_ble_eq_true rfl) ?_
  obtain ⟨hR, hr4, hD, hL, hK⟩ := id hX
  have e4 : ∀ k, (40 : Int32) * nI r + nI k = nI (40 * r + k) := fun k => by rw [show (40 : Int32) = nI 40 from rfl, pk_mul, nI_add]
  have e6 : ∀ k, (6 : Int32) * nI r + nI k = nI (6 * r + k) := fun k => by rw [show (6 : Int32) = nI 6 from rfl, pk_mul, nI_add]
  have hR2 : ∀ τ : MW, mI τ 11 = mI σ 11 → mI τ 11 = nI r := fun τ h => h.trans hR
  have h6s : mA σ 6 r = nI s := hs
  have eb : fBlock (nI v) = 0 := by unfold fBlock; rw [if_neg (show ¬ nI v = 1 from fun z => absurd ((nI_eq (b := 1) (by omega) (by decide)).mp z) (by omega)), if_neg (show ¬ nI v = 4 from fun z => absurd ((nI_eq (b := 4) (by omega) (by decide)).mp z) (by omega)), if_neg (show ¬ nI v = 11 from fun z => absurd ((nI_eq (b := 11) (by omega) (by decide)).mp z) (by omega))]
  refine g_iload_n dX10_step_0 rfl ?_
  refine g_iload_n dX10_step_1 rfl ?_
  refine g_iload_n dX10_step_2 rfl ?_
  refine g_iload dX10_step_3 rfl ?_
  refine g_callS (d1 := d - 1) (As := [_, _, _, _]) dX10_step_5 sX10_125 (by omega) rfl rfl (Nat.le_of_ble_eq_true rfl) ?_
  refine m_told (by omega) hv ?_
  refine g_if_ne 13 dX10_step_8 (by decide) (fun _ => ?_) (fun q => absurd q (by rw [ht]; decide))
  refine g_aload_n dX10_step_13 rfl ?_
  refine g_iload_n dX10_step_14 rfl ?_
  refine g_callV (d1 := d - 1) (As := [_]) 9 dX10_step_15 vX10_129 (by omega) (mg_ob hS) rfl rfl (Nat.le_of_ble_eq_true rfl) ?_
  refine m_mayStand (by omega) hS hX hLp hv ?_
  refine g_if_ne 24 dX10_step_18 (by decide) (fun _ => ?_) (fun q => absurd q (by rw [hm]; decide))
  refine g_aload_n dX10_step_24 rfl ?_
  refine mg_getA 6 6 dX10_step_25 fX10_28 rfl rt_6 hS ?_
  refine g_aload_n dX10_step_28 rfl ?_
  refine mg_getIv (x := nI r) 11 dX10_step_29 fX10_104 rfl (by decide) hS hR ?_
  refine mg_iald dX10_step_32 rfl rfl rfl (by omega) hS ?_
  rw [hs]
  refine g_bipushV (v := 40) dX10_step_33 (by decide) ?_
  refine g_icmp_ne 41 dX10_step_35 (by decide) (fun _ => ?_) (fun q => absurd q (fun z => absurd ((nI_eq (b := 40) (by omega) (by decide)).mp z) (by omega)))
  refine g_bipushV (v := 40) dX10_step_41 (by decide) ?_
  refine g_aload_n dX10_step_43 rfl ?_
  refine mg_getIv (x := nI r) 11 dX10_step_44 fX10_104 rfl (by decide) hS hR ?_
  refine g_imul dX10_step_47 ?_
  refine g_aload_n dX10_step_48 rfl ?_
  refine mg_getA 6 6 dX10_step_49 fX10_28 rfl rt_6 hS ?_
  refine g_aload_n dX10_step_52 rfl ?_
  refine mg_getIv (x := nI r) 11 dX10_step_53 fX10_104 rfl (by decide) hS hR ?_
  refine mg_iald dX10_step_56 rfl rfl rfl (by omega) hS ?_
  rw [hs]
  refine g_iadd dX10_step_57 ?_
  rw [e4]
  refine g_istore dX10_step_58 (by decide) rfl ?_
  refine g_aload_n dX10_step_60 rfl ?_
  refine mg_getA 0 0 dX10_step_61 fX10_7 rfl rt_0 hS ?_
  refine g_iload dX10_step_64 rfl ?_
  refine g_iload_n dX10_step_66 rfl ?_
  refine mg_iast dX10_step_67 rfl rfl rfl (by omega) hS ?_
  refine g_aload_n dX10_step_68 rfl ?_
  refine mg_getA 1 1 dX10_step_69 fX10_13 rfl rt_1 hS ?_
  refine g_iload dX10_step_72 rfl ?_
  refine g_iload_n dX10_step_74 rfl ?_
  refine mg_iast dX10_step_75 rfl rfl rfl (by omega) hS ?_
  refine g_aload_n dX10_step_76 rfl ?_
  refine mg_getA 2 2 dX10_step_77 fX10_16 rfl rt_2 hS ?_
  refine g_iload dX10_step_80 rfl ?_
  refine g_iload_n dX10_step_82 rfl ?_
  refine mg_iast dX10_step_83 rfl rfl rfl (by omega) hS ?_
  refine g_aload_n dX10_step_84 rfl ?_
  refine mg_getA 3 3 dX10_step_85 fX10_19 rfl rt_3 hS ?_
  refine g_iload dX10_step_88 rfl ?_
  refine g_iload dX10_step_90 rfl ?_
  refine mg_iast dX10_step_92 rfl rfl rfl (by omega) hS ?_
  refine g_aload_n dX10_step_93 rfl ?_
  refine mg_getA 6 6 dX10_step_94 fX10_28 rfl rt_6 hS ?_
  refine g_aload_n dX10_step_97 rfl ?_
  refine mg_getIv (x := nI r) 11 dX10_step_98 fX10_104 rfl (by decide) hS hR ?_
  refine g_dup2 dX10_step_101 rfl rfl ?_
  refine mg_iald dX10_step_102 rfl rfl rfl (by omega) hS ?_
  rw [show mA (sA (sA (sA (sA σ 0 (40 * r + s) (nI v)) 1 (40 * r + s) a) 2 (40 * r + s) b) 3 (40 * r + s) c) 6 r = nI s from h6s]
  refine g_iconstV (v := 1) dX10_step_103 (by decide) ?_
  refine g_iadd dX10_step_104 ?_
  rw [show nI s + 1 = nI (s + 1) from nI_1 s]
  refine mg_iast dX10_step_105 rfl rfl rfl (by omega) hS ?_
  rw [mSt_eq]
  refine g_iload_n dX10_step_106 rfl ?_
  refine g_callS (d1 := d - 1) (As := [_]) dX10_step_107 sX10_118 (by omega) rfl rfl (Nat.le_of_ble_eq_true rfl) ?_
  refine m_isBlock ?_
  refine g_if_eq 174 dX10_step_110 (by decide) (fun _ => ?_) (fun q => absurd (eb) q)
  refine g_iload_n dX10_step_174 rfl ?_
  refine g_iconstV (v := 2) dX10_step_175 (by decide) ?_
  refine g_icmp_eq 188 dX10_step_176 (by decide) (fun q => absurd q (fun z => absurd ((nI_eq (b := 2) (by omega) (by decide)).mp z) (by omega))) (fun _ => ?_)
  refine g_iload_n dX10_step_179 rfl ?_
  refine g_iconstV (v := 3) dX10_step_180 (by decide) ?_
  refine g_icmp_eq 188 dX10_step_181 (by decide) (fun q => absurd q (fun z => absurd ((nI_eq (b := 3) (by omega) (by decide)).mp z) (by omega))) (fun _ => ?_)
  refine g_iload_n dX10_step_184 rfl ?_
  refine g_if_ne 283 dX10_step_185 (by decide) (fun _ => ?_) (fun q => absurd q (fun z => absurd ((nI_eq (b := 0) (by omega) (by decide)).mp z) (by omega)))
  refine g_aload_n dX10_step_283 rfl ?_
  refine mg_getA 6 6 dX10_step_284 fX10_28 rfl rt_6 hS ?_
  refine g_aload_n dX10_step_287 rfl ?_
  refine mg_getIv (x := nI r) 11 dX10_step_288 fX10_104 rfl (by decide) hS hR ?_
  refine mg_iald dX10_step_291 rfl rfl rfl (by omega) hS ?_
  rw [mSt_6]
  refine g_iret dX10_step_292 rfl ?_
  exact k
set_option maxHeartbeats 4000000 in
set_option maxRecDepth 20000 in
theorem m_stepOpen {g : GE} {d : Nat} {w : GW} {σ : MW} {Q : Option Value → GW → Prop} (hd : 3 ≤ d) (hS : SK g w) {r s : Nat} {bs : List (Nat × Nat × Nat)} (hX : MX σ r bs) (hLp : ∀ j, j < bs.length → mA σ 0 (40 * r + (nth bs j).1) = 4 → ¬ mA σ 0 (40 * r + (nth bs j).2.1) = 3) {v : Nat} {a b c : Int32} (hv : v < 25) (ht : fT v a b c = 1) (hm : fMay (fun i => mA σ 0 (40 * r + i)) v bs = 1) (hs : mA σ 6 r = nI s) (h40 : s < 40) (hp : v = 1 ∨ v = 4 ∨ v = 11) (hl6 : bs.length < 6) (k : Q (some (.int (nI (s + 1)))) (put g (mStO (mSt σ r s (nI v) a b c) r s bs.length) w)) : gM g d mX10_step [.ref (eB g + 70), .int (nI v), .int a, .int b, .int c] (put g σ w) Q := by
  refine gM.of (by decide) (Nat.le_of_ble_eq_true rfl) ?_
  obtain ⟨hR, hr4, hD, hL, hK⟩ := id hX
  have e4 : ∀ k, (40 : Int32) * nI r + nI k = nI (40 * r + k) := fun k => by rw [show (40 : Int32) = nI 40 from rfl, pk_mul, nI_add]
  have e6 : ∀ k, (6 : Int32) * nI r + nI k = nI (6 * r + k) := fun k => by rw [show (6 : Int32) = nI 6 from rfl, pk_mul, nI_add]
  have hR2 : ∀ τ : MW, mI τ 11 = mI σ 11 → mI τ 11 = nI r := fun τ h => h.trans hR
  have h6s : mA σ 6 r = nI s := hs
  have eb : ¬ fBlock (nI v) = 0 := by rcases hp with rfl | rfl | rfl <;> decide
  have hX7 : mA (mSt σ r s (nI v) a b c) 7 r = nI bs.length := by rw [mSt_old _ _ _ _ _ _ _ _ _ (by omega)]; exact hD
  have E291 : mA (mStO (mSt σ r s (nI v) a b c) r s bs.length) 6 r = nI (s + 1) := by unfold mStO; rw [mA_sA, if_neg (by omega), mA_sA, if_neg (by omega), mA_sA, if_neg (by omega), mA_sA, if_neg (by omega), mSt_6]
  refine g_iload_n dX10_step_0 rfl ?_
  refine g_iload_n dX10_step_1 rfl ?_
  refine g_iload_n dX10_step_2 rfl ?_
  refine g_iload dX10_step_3 rfl ?_
  refine g_callS (d1 := d - 1) (As := [_, _, _, _]) dX10_step_5 sX10_125 (by omega) rfl rfl (Nat.le_of_ble_eq_true rfl) ?_
  refine m_told (by omega) hv ?_
  refine g_if_ne 13 dX10_step_8 (by decide) (fun _ => ?_) (fun q => absurd q (by rw [ht]; decide))
  refine g_aload_n dX10_step_13 rfl ?_
  refine g_iload_n dX10_step_14 rfl ?_
  refine g_callV (d1 := d - 1) (As := [_]) 9 dX10_step_15 vX10_129 (by omega) (mg_ob hS) rfl rfl (Nat.le_of_ble_eq_true rfl) ?_
  refine m_mayStand (by omega) hS hX hLp hv ?_
  refine g_if_ne 24 dX10_step_18 (by decide) (fun _ => ?_) (fun q => absurd q (by rw [hm]; decide))
  refine g_aload_n dX10_step_24 rfl ?_
  refine mg_getA 6 6 dX10_step_25 fX10_28 rfl rt_6 hS ?_
  refine g_aload_n dX10_step_28 rfl ?_
  refine mg_getIv (x := nI r) 11 dX10_step_29 fX10_104 rfl (by decide) hS hR ?_
  refine mg_iald dX10_step_32 rfl rfl rfl (by omega) hS ?_
  rw [hs]
  refine g_bipushV (v := 40) dX10_step_33 (by decide) ?_
  refine g_icmp_ne 41 dX10_step_35 (by decide) (fun _ => ?_) (fun q => absurd q (fun z => absurd ((nI_eq (b := 40) (by omega) (by decide)).mp z) (by omega)))
  refine g_bipushV (v := 40) dX10_step_41 (by decide) ?_
  refine g_aload_n dX10_step_43 rfl ?_
  refine mg_getIv (x := nI r) 11 dX10_step_44 fX10_104 rfl (by decide) hS hR ?_
  refine g_imul dX10_step_47 ?_
  refine g_aload_n dX10_step_48 rfl ?_
  refine mg_getA 6 6 dX10_step_49 fX10_28 rfl rt_6 hS ?_
  refine g_aload_n dX10_step_52 rfl ?_
  refine mg_getIv (x := nI r) 11 dX10_step_53 fX10_104 rfl (by decide) hS hR ?_
  refine mg_iald dX10_step_56 rfl rfl rfl (by omega) hS ?_
  rw [hs]
  refine g_iadd dX10_step_57 ?_
  rw [e4]
  refine g_istore dX10_step_58 (by decide) rfl ?_
  refine g_aload_n dX10_step_60 rfl ?_
  refine mg_getA 0 0 dX10_step_61 fX10_7 rfl rt_0 hS ?_
  refine g_iload dX10_step_64 rfl ?_
  refine g_iload_n dX10_step_66 rfl ?_
  refine mg_iast dX10_step_67 rfl rfl rfl (by omega) hS ?_
  refine g_aload_n dX10_step_68 rfl ?_
  refine mg_getA 1 1 dX10_step_69 fX10_13 rfl rt_1 hS ?_
  refine g_iload dX10_step_72 rfl ?_
  refine g_iload_n dX10_step_74 rfl ?_
  refine mg_iast dX10_step_75 rfl rfl rfl (by omega) hS ?_
  refine g_aload_n dX10_step_76 rfl ?_
  refine mg_getA 2 2 dX10_step_77 fX10_16 rfl rt_2 hS ?_
  refine g_iload dX10_step_80 rfl ?_
  refine g_iload_n dX10_step_82 rfl ?_
  refine mg_iast dX10_step_83 rfl rfl rfl (by omega) hS ?_
  refine g_aload_n dX10_step_84 rfl ?_
  refine mg_getA 3 3 dX10_step_85 fX10_19 rfl rt_3 hS ?_
  refine g_iload dX10_step_88 rfl ?_
  refine g_iload dX10_step_90 rfl ?_
  refine mg_iast dX10_step_92 rfl rfl rfl (by omega) hS ?_
  refine g_aload_n dX10_step_93 rfl ?_
  refine mg_getA 6 6 dX10_step_94 fX10_28 rfl rt_6 hS ?_
  refine g_aload_n dX10_step_97 rfl ?_
  refine mg_getIv (x := nI r) 11 dX10_step_98 fX10_104 rfl (by decide) hS hR ?_
  refine g_dup2 dX10_step_101 rfl rfl ?_
  refine mg_iald dX10_step_102 rfl rfl rfl (by omega) hS ?_
  rw [show mA (sA (sA (sA (sA σ 0 (40 * r + s) (nI v)) 1 (40 * r + s) a) 2 (40 * r + s) b) 3 (40 * r + s) c) 6 r = nI s from h6s]
  refine g_iconstV (v := 1) dX10_step_103 (by decide) ?_
  refine g_iadd dX10_step_104 ?_
  rw [show nI s + 1 = nI (s + 1) from nI_1 s]
  refine mg_iast dX10_step_105 rfl rfl rfl (by omega) hS ?_
  rw [mSt_eq]
  refine g_iload_n dX10_step_106 rfl ?_
  refine g_callS (d1 := d - 1) (As := [_]) dX10_step_107 sX10_118 (by omega) rfl rfl (Nat.le_of_ble_eq_true rfl) ?_
  refine m_isBlock ?_
  refine g_if_eq 174 dX10_step_110 (by decide) (fun q => absurd q (eb)) (fun _ => ?_)
  refine g_bipushV (v := 6) dX10_step_113 (by decide) ?_
  refine g_aload_n dX10_step_115 rfl ?_
  refine mg_getIv (x := nI r) 11 dX10_step_116 fX10_104 rfl (by decide) hS hR ?_
  refine g_imul dX10_step_119 ?_
  refine g_aload_n dX10_step_120 rfl ?_
  refine mg_getA 7 7 dX10_step_121 fX10_31 rfl rt_7 hS ?_
  refine g_aload_n dX10_step_124 rfl ?_
  refine mg_getIv (x := nI r) 11 dX10_step_125 fX10_104 rfl (by decide) hS hR ?_
  refine mg_iald dX10_step_128 rfl rfl rfl (by omega) hS ?_
  rw [hX7]
  refine g_iadd dX10_step_129 ?_
  rw [e6]
  refine g_istore dX10_step_130 (by decide) rfl ?_
  refine g_aload_n dX10_step_132 rfl ?_
  refine mg_getA 8 8 dX10_step_133 fX10_34 rfl rt_8 hS ?_
  refine g_iload dX10_step_136 rfl ?_
  refine g_iload dX10_step_138 rfl ?_
  refine mg_iast dX10_step_140 rfl rfl rfl (by omega) hS ?_
  refine g_aload_n dX10_step_141 rfl ?_
  refine mg_getA 9 9 dX10_step_142 fX10_37 rfl rt_9 hS ?_
  refine g_iload dX10_step_145 rfl ?_
  refine g_iload dX10_step_147 rfl ?_
  refine mg_iast dX10_step_149 rfl rfl rfl (by omega) hS ?_
  refine g_aload_n dX10_step_150 rfl ?_
  refine mg_getA 10 10 dX10_step_151 fX10_40 rfl rt_10 hS ?_
  refine g_iload dX10_step_154 rfl ?_
  refine g_iconstV (v := 0) dX10_step_156 (by decide) ?_
  refine mg_iast dX10_step_157 rfl rfl rfl (by omega) hS ?_
  refine g_aload_n dX10_step_158 rfl ?_
  refine mg_getA 7 7 dX10_step_159 fX10_31 rfl rt_7 hS ?_
  refine g_aload_n dX10_step_162 rfl ?_
  refine mg_getIv (x := nI r) 11 dX10_step_163 fX10_104 rfl (by decide) hS hR ?_
  refine g_dup2 dX10_step_166 rfl rfl ?_
  refine mg_iald dX10_step_167 rfl rfl rfl (by omega) hS ?_
  rw [show mA (sA (sA (sA (mSt σ r s (nI v) a b c) 8 (6 * r + bs.length) (nI (40 * r + s))) 9 (6 * r + bs.length) (nI (40 * r + s))) 10 (6 * r + bs.length) 0) 7 r = nI bs.length by rw [mA_sA, if_neg (by omega), mA_sA, if_neg (by omega), mA_sA, if_neg (by omega)]; exact hX7]
  refine g_iconstV (v := 1) dX10_step_168 (by decide) ?_
  refine g_iadd dX10_step_169 ?_
  rw [show nI bs.length + 1 = nI (bs.length + 1) from nI_1 _]
  refine mg_iast dX10_step_170 rfl rfl rfl (by omega) hS ?_
  refine g_goto 283 dX10_step_171 (by decide) ?_
  rw [show sA (sA (sA (sA (mSt σ r s (nI v) a b c) 8 (6 * r + bs.length) (nI (40 * r + s))) 9 (6 * r + bs.length) (nI (40 * r + s))) 10 (6 * r + bs.length) 0) 7 r (nI (bs.length + 1)) = mStO (mSt σ r s (nI v) a b c) r s bs.length from rfl]
  refine g_aload_n dX10_step_283 rfl ?_
  refine mg_getA 6 6 dX10_step_284 fX10_28 rfl rt_6 hS ?_
  refine g_aload_n dX10_step_287 rfl ?_
  refine mg_getIv (x := nI r) 11 dX10_step_288 fX10_104 rfl (by decide) hS hR ?_
  refine mg_iald dX10_step_291 rfl rfl rfl (by omega) hS ?_
  rw [show mA (mStO (mSt σ r s (nI v) a b c) r s bs.length) 6 r = nI (s + 1) from E291]
  refine g_iret dX10_step_292 rfl ?_
  exact k
set_option maxHeartbeats 4000000 in
set_option maxRecDepth 20000 in
theorem m_stepPart2 {g : GE} {d : Nat} {w : GW} {σ : MW} {Q : Option Value → GW → Prop} (hd : 3 ≤ d) (hS : SK g w) {r s : Nat} {o p x : Nat} {bs : List (Nat × Nat × Nat)} (hX : MX σ r ((o, p, x) :: bs)) (hLp : ∀ j, j < ((o, p, x) :: bs).length → mA σ 0 (40 * r + (nth ((o, p, x) :: bs) j).1) = 4 → ¬ mA σ 0 (40 * r + (nth ((o, p, x) :: bs) j).2.1) = 3) {a b c : Int32} (ht : fT 2 a b c = 1) (hm : fMay (fun i => mA σ 0 (40 * r + i)) 2 ((o, p, x) :: bs) = 1) (hs : mA σ 6 r = nI s) (h40 : s < 40) (k : Q (some (.int (nI (s + 1)))) (put g (mStP (mSt σ r s (nI 2) a b c) r s bs.length (40 * r + p) (nI (x + 1))) w)) : gM g d mX10_step [.ref (eB g + 70), .int (nI 2), .int a, .int b, .int c] (put g σ w) Q := by
  refine gM.of (by decide) (Nat.le_of_ble_eq_true rfl) ?_
  obtain ⟨hR, hr4, hD, hL, hK⟩ := id hX
  have e4 : ∀ k, (40 : Int32) * nI r + nI k = nI (40 * r + k) := fun k => by rw [show (40 : Int32) = nI 40 from rfl, pk_mul, nI_add]
  have e6 : ∀ k, (6 : Int32) * nI r + nI k = nI (6 * r + k) := fun k => by rw [show (6 : Int32) = nI 6 from rfl, pk_mul, nI_add]
  have hR2 : ∀ τ : MW, mI τ 11 = mI σ 11 → mI τ 11 = nI r := fun τ h => h.trans hR
  have h6s : mA σ 6 r = nI s := hs
  obtain ⟨a1, a2, a3, a4, a5, a6⟩ := hK bs.length (by rw [List.length_cons]; omega)
  rw [nth_top] at a1 a2 a3 a4 a5 a6
  have a4' : o < 40 := a4
  have a5' : p < 40 := a5
  have a6' : x ≤ 3 := a6
  rw [List.length_cons] at hL
  have hX7 : mA (mSt σ r s (nI 2) a b c) 7 r = nI (bs.length + 1) := by rw [mSt_old _ _ _ _ _ _ _ _ _ (by omega)]; exact hD
  have b1 : mA (mSt σ r s (nI 2) a b c) 8 (6 * r + bs.length) = nI (40 * r + o) := by rw [mSt_old _ _ _ _ _ _ _ _ _ (by omega)]; exact a1
  have b2 : mA (mSt σ r s (nI 2) a b c) 9 (6 * r + bs.length) = nI (40 * r + p) := by rw [mSt_old _ _ _ _ _ _ _ _ _ (by omega)]; exact a2
  have b3 : mA (mSt σ r s (nI 2) a b c) 10 (6 * r + bs.length) = nI x := by rw [mSt_old _ _ _ _ _ _ _ _ _ (by omega)]; exact a3
  have et : nI (6 * r + (bs.length + 1)) - 1 = nI (6 * r + bs.length) := by rw [show 6 * r + (bs.length + 1) = 6 * r + bs.length + 1 by omega, ← nI_1]; simp
  have hv : 2 < 25 := by decide
  have E291 : mA (mStP (mSt σ r s (nI 2) a b c) r s bs.length (40 * r + p) (nI (x + 1))) 6 r = nI (s + 1) := by unfold mStP; rw [mA_sA, if_neg (by omega), mA_sA, if_neg (by omega), mA_sA, if_neg (by omega), mSt_6]
  refine g_iload_n dX10_step_0 rfl ?_
  refine g_iload_n dX10_step_1 rfl ?_
  refine g_iload_n dX10_step_2 rfl ?_
  refine g_iload dX10_step_3 rfl ?_
  refine g_callS (d1 := d - 1) (As := [_, _, _, _]) dX10_step_5 sX10_125 (by omega) rfl rfl (Nat.le_of_ble_eq_true rfl) ?_
  refine m_told (by omega) hv ?_
  refine g_if_ne 13 dX10_step_8 (by decide) (fun _ => ?_) (fun q => absurd q (by rw [ht]; decide))
  refine g_aload_n dX10_step_13 rfl ?_
  refine g_iload_n dX10_step_14 rfl ?_
  refine g_callV (d1 := d - 1) (As := [_]) 9 dX10_step_15 vX10_129 (by omega) (mg_ob hS) rfl rfl (Nat.le_of_ble_eq_true rfl) ?_
  refine m_mayStand (by omega) hS hX hLp hv ?_
  refine g_if_ne 24 dX10_step_18 (by decide) (fun _ => ?_) (fun q => absurd q (by rw [hm]; decide))
  refine g_aload_n dX10_step_24 rfl ?_
  refine mg_getA 6 6 dX10_step_25 fX10_28 rfl rt_6 hS ?_
  refine g_aload_n dX10_step_28 rfl ?_
  refine mg_getIv (x := nI r) 11 dX10_step_29 fX10_104 rfl (by decide) hS hR ?_
  refine mg_iald dX10_step_32 rfl rfl rfl (by omega) hS ?_
  rw [hs]
  refine g_bipushV (v := 40) dX10_step_33 (by decide) ?_
  refine g_icmp_ne 41 dX10_step_35 (by decide) (fun _ => ?_) (fun q => absurd q (fun z => absurd ((nI_eq (b := 40) (by omega) (by decide)).mp z) (by omega)))
  refine g_bipushV (v := 40) dX10_step_41 (by decide) ?_
  refine g_aload_n dX10_step_43 rfl ?_
  refine mg_getIv (x := nI r) 11 dX10_step_44 fX10_104 rfl (by decide) hS hR ?_
  refine g_imul dX10_step_47 ?_
  refine g_aload_n dX10_step_48 rfl ?_
  refine mg_getA 6 6 dX10_step_49 fX10_28 rfl rt_6 hS ?_
  refine g_aload_n dX10_step_52 rfl ?_
  refine mg_getIv (x := nI r) 11 dX10_step_53 fX10_104 rfl (by decide) hS hR ?_
  refine mg_iald dX10_step_56 rfl rfl rfl (by omega) hS ?_
  rw [hs]
  refine g_iadd dX10_step_57 ?_
  rw [e4]
  refine g_istore dX10_step_58 (by decide) rfl ?_
  refine g_aload_n dX10_step_60 rfl ?_
  refine mg_getA 0 0 dX10_step_61 fX10_7 rfl rt_0 hS ?_
  refine g_iload dX10_step_64 rfl ?_
  refine g_iload_n dX10_step_66 rfl ?_
  refine mg_iast dX10_step_67 rfl rfl rfl (by omega) hS ?_
  refine g_aload_n dX10_step_68 rfl ?_
  refine mg_getA 1 1 dX10_step_69 fX10_13 rfl rt_1 hS ?_
  refine g_iload dX10_step_72 rfl ?_
  refine g_iload_n dX10_step_74 rfl ?_
  refine mg_iast dX10_step_75 rfl rfl rfl (by omega) hS ?_
  refine g_aload_n dX10_step_76 rfl ?_
  refine mg_getA 2 2 dX10_step_77 fX10_16 rfl rt_2 hS ?_
  refine g_iload dX10_step_80 rfl ?_
  refine g_iload_n dX10_step_82 rfl ?_
  refine mg_iast dX10_step_83 rfl rfl rfl (by omega) hS ?_
  refine g_aload_n dX10_step_84 rfl ?_
  refine mg_getA 3 3 dX10_step_85 fX10_19 rfl rt_3 hS ?_
  refine g_iload dX10_step_88 rfl ?_
  refine g_iload dX10_step_90 rfl ?_
  refine mg_iast dX10_step_92 rfl rfl rfl (by omega) hS ?_
  refine g_aload_n dX10_step_93 rfl ?_
  refine mg_getA 6 6 dX10_step_94 fX10_28 rfl rt_6 hS ?_
  refine g_aload_n dX10_step_97 rfl ?_
  refine mg_getIv (x := nI r) 11 dX10_step_98 fX10_104 rfl (by decide) hS hR ?_
  refine g_dup2 dX10_step_101 rfl rfl ?_
  refine mg_iald dX10_step_102 rfl rfl rfl (by omega) hS ?_
  rw [show mA (sA (sA (sA (sA σ 0 (40 * r + s) (nI 2)) 1 (40 * r + s) a) 2 (40 * r + s) b) 3 (40 * r + s) c) 6 r = nI s from h6s]
  refine g_iconstV (v := 1) dX10_step_103 (by decide) ?_
  refine g_iadd dX10_step_104 ?_
  rw [show nI s + 1 = nI (s + 1) from nI_1 s]
  refine mg_iast dX10_step_105 rfl rfl rfl (by omega) hS ?_
  rw [mSt_eq]
  refine g_iload_n dX10_step_106 rfl ?_
  refine g_callS (d1 := d - 1) (As := [_]) dX10_step_107 sX10_118 (by omega) rfl rfl (Nat.le_of_ble_eq_true rfl) ?_
  refine m_isBlock ?_
  refine g_if_eq 174 dX10_step_110 (by decide) (fun _ => ?_) (fun q => absurd (by decide) q)
  refine g_iload_n dX10_step_174 rfl ?_
  refine g_iconstV (v := 2) dX10_step_175 (by decide) ?_
  refine g_icmp_eq 188 dX10_step_176 (by decide) (fun _ => ?_) (fun q => absurd (rfl) q)
  refine g_bipushV (v := 6) dX10_step_188 (by decide) ?_
  refine g_aload_n dX10_step_190 rfl ?_
  refine mg_getIv (x := nI r) 11 dX10_step_191 fX10_104 rfl (by decide) hS hR ?_
  refine g_imul dX10_step_194 ?_
  refine g_aload_n dX10_step_195 rfl ?_
  refine mg_getA 7 7 dX10_step_196 fX10_31 rfl rt_7 hS ?_
  refine g_aload_n dX10_step_199 rfl ?_
  refine mg_getIv (x := nI r) 11 dX10_step_200 fX10_104 rfl (by decide) hS hR ?_
  refine mg_iald dX10_step_203 rfl rfl rfl (by omega) hS ?_
  rw [hX7]
  refine g_iadd dX10_step_204 ?_
  rw [e6]
  refine g_iconstV (v := 1) dX10_step_205 (by decide) ?_
  refine g_isub dX10_step_206 ?_
  rw [et]
  refine g_istore dX10_step_207 (by decide) rfl ?_
  refine g_aload_n dX10_step_209 rfl ?_
  refine mg_getA 5 5 dX10_step_210 fX10_25 rfl rt_5 hS ?_
  refine g_aload_n dX10_step_213 rfl ?_
  refine mg_getA 9 9 dX10_step_214 fX10_37 rfl rt_9 hS ?_
  refine g_iload dX10_step_217 rfl ?_
  refine mg_iald dX10_step_219 rfl rfl rfl (by omega) hS ?_
  rw [b2]
  refine g_iload dX10_step_220 rfl ?_
  refine mg_iast dX10_step_222 rfl rfl rfl (by omega) hS ?_
  refine g_aload_n dX10_step_223 rfl ?_
  refine mg_getA 9 9 dX10_step_224 fX10_37 rfl rt_9 hS ?_
  refine g_iload dX10_step_227 rfl ?_
  refine g_iload dX10_step_229 rfl ?_
  refine mg_iast dX10_step_231 rfl rfl rfl (by omega) hS ?_
  refine g_aload_n dX10_step_232 rfl ?_
  refine mg_getA 10 10 dX10_step_233 fX10_40 rfl rt_10 hS ?_
  refine g_iload dX10_step_236 rfl ?_
  refine g_dup2 dX10_step_238 rfl rfl ?_
  refine mg_iald dX10_step_239 rfl rfl rfl (by omega) hS ?_
  rw [show mA (sA (sA (mSt σ r s (nI 2) a b c) 5 (40 * r + p) (nI (40 * r + s))) 9 (6 * r + bs.length) (nI (40 * r + s))) 10 (6 * r + bs.length) = nI x by rw [mA_sA, if_neg (by omega), mA_sA, if_neg (by omega)]; exact b3]
  refine g_iload_n dX10_step_240 rfl ?_
  refine g_iconstV (v := 2) dX10_step_241 (by decide) ?_
  refine g_icmp_ne 249 dX10_step_242 (by decide) (fun q => absurd (rfl) q) (fun _ => ?_)
  refine g_iconstV (v := 1) dX10_step_245 (by decide) ?_
  refine g_goto 250 dX10_step_246 (by decide) ?_
  refine g_iadd dX10_step_250 ?_
  rw [show nI x + 1 = (nI (x + 1)) from nI_1 x]
  refine mg_iast dX10_step_251 rfl rfl rfl (by omega) hS ?_
  rw [show sA (sA (sA (mSt σ r s (nI 2) a b c) 5 (40 * r + p) (nI (40 * r + s))) 9 (6 * r + bs.length) (nI (40 * r + s))) 10 (6 * r + bs.length) (nI (x + 1)) = mStP (mSt σ r s (nI 2) a b c) r s bs.length (40 * r + p) (nI (x + 1)) from rfl]
  refine g_iload_n dX10_step_252 rfl ?_
  refine g_if_ne 283 dX10_step_253 (by decide) (fun _ => ?_) (fun q => absurd q (by decide))
  refine g_aload_n dX10_step_283 rfl ?_
  refine mg_getA 6 6 dX10_step_284 fX10_28 rfl rt_6 hS ?_
  refine g_aload_n dX10_step_287 rfl ?_
  refine mg_getIv (x := nI r) 11 dX10_step_288 fX10_104 rfl (by decide) hS hR ?_
  refine mg_iald dX10_step_291 rfl rfl rfl (by omega) hS ?_
  rw [show mA (mStP (mSt σ r s (nI 2) a b c) r s bs.length (40 * r + p) (nI (x + 1))) 6 r = nI (s + 1) from E291]
  refine g_iret dX10_step_292 rfl ?_
  exact k
set_option maxHeartbeats 4000000 in
set_option maxRecDepth 20000 in
theorem m_stepPart3 {g : GE} {d : Nat} {w : GW} {σ : MW} {Q : Option Value → GW → Prop} (hd : 3 ≤ d) (hS : SK g w) {r s : Nat} {o p x : Nat} {bs : List (Nat × Nat × Nat)} (hX : MX σ r ((o, p, x) :: bs)) (hLp : ∀ j, j < ((o, p, x) :: bs).length → mA σ 0 (40 * r + (nth ((o, p, x) :: bs) j).1) = 4 → ¬ mA σ 0 (40 * r + (nth ((o, p, x) :: bs) j).2.1) = 3) {a b c : Int32} (ht : fT 3 a b c = 1) (hm : fMay (fun i => mA σ 0 (40 * r + i)) 3 ((o, p, x) :: bs) = 1) (hs : mA σ 6 r = nI s) (h40 : s < 40) (k : Q (some (.int (nI (s + 1)))) (put g (mStP (mSt σ r s (nI 3) a b c) r s bs.length (40 * r + p) (nI x)) w)) : gM g d mX10_step [.ref (eB g + 70), .int (nI 3), .int a, .int b, .int c] (put g σ w) Q := by
  refine gM.of (by decide) (Nat.le_of_ble_eq_true rfl) ?_
  obtain ⟨hR, hr4, hD, hL, hK⟩ := id hX
  have e4 : ∀ k, (40 : Int32) * nI r + nI k = nI (40 * r + k) := fun k => by rw [show (40 : Int32) = nI 40 from rfl, pk_mul, nI_add]
  have e6 : ∀ k, (6 : Int32) * nI r + nI k = nI (6 * r + k) := fun k => by rw [show (6 : Int32) = nI 6 from rfl, pk_mul, nI_add]
  have hR2 : ∀ τ : MW, mI τ 11 = mI σ 11 → mI τ 11 = nI r := fun τ h => h.trans hR
  have h6s : mA σ 6 r = nI s := hs
  obtain ⟨a1, a2, a3, a4, a5, a6⟩ := hK bs.length (by rw [List.length_cons]; omega)
  rw [nth_top] at a1 a2 a3 a4 a5 a6
  have a4' : o < 40 := a4
  have a5' : p < 40 := a5
  have a6' : x ≤ 3 := a6
  rw [List.length_cons] at hL
  have hX7 : mA (mSt σ r s (nI 3) a b c) 7 r = nI (bs.length + 1) := by rw [mSt_old _ _ _ _ _ _ _ _ _ (by omega)]; exact hD
  have b1 : mA (mSt σ r s (nI 3) a b c) 8 (6 * r + bs.length) = nI (40 * r + o) := by rw [mSt_old _ _ _ _ _ _ _ _ _ (by omega)]; exact a1
  have b2 : mA (mSt σ r s (nI 3) a b c) 9 (6 * r + bs.length) = nI (40 * r + p) := by rw [mSt_old _ _ _ _ _ _ _ _ _ (by omega)]; exact a2
  have b3 : mA (mSt σ r s (nI 3) a b c) 10 (6 * r + bs.length) = nI x := by rw [mSt_old _ _ _ _ _ _ _ _ _ (by omega)]; exact a3
  have et : nI (6 * r + (bs.length + 1)) - 1 = nI (6 * r + bs.length) := by rw [show 6 * r + (bs.length + 1) = 6 * r + bs.length + 1 by omega, ← nI_1]; simp
  have hv : 3 < 25 := by decide
  have E291 : mA (mStP (mSt σ r s (nI 3) a b c) r s bs.length (40 * r + p) (nI x)) 6 r = nI (s + 1) := by unfold mStP; rw [mA_sA, if_neg (by omega), mA_sA, if_neg (by omega), mA_sA, if_neg (by omega), mSt_6]
  refine g_iload_n dX10_step_0 rfl ?_
  refine g_iload_n dX10_step_1 rfl ?_
  refine g_iload_n dX10_step_2 rfl ?_
  refine g_iload dX10_step_3 rfl ?_
  refine g_callS (d1 := d - 1) (As := [_, _, _, _]) dX10_step_5 sX10_125 (by omega) rfl rfl (Nat.le_of_ble_eq_true rfl) ?_
  refine m_told (by omega) hv ?_
  refine g_if_ne 13 dX10_step_8 (by decide) (fun _ => ?_) (fun q => absurd q (by rw [ht]; decide))
  refine g_aload_n dX10_step_13 rfl ?_
  refine g_iload_n dX10_step_14 rfl ?_
  refine g_callV (d1 := d - 1) (As := [_]) 9 dX10_step_15 vX10_129 (by omega) (mg_ob hS) rfl rfl (Nat.le_of_ble_eq_true rfl) ?_
  refine m_mayStand (by omega) hS hX hLp hv ?_
  refine g_if_ne 24 dX10_step_18 (by decide) (fun _ => ?_) (fun q => absurd q (by rw [hm]; decide))
  refine g_aload_n dX10_step_24 rfl ?_
  refine mg_getA 6 6 dX10_step_25 fX10_28 rfl rt_6 hS ?_
  refine g_aload_n dX10_step_28 rfl ?_
  refine mg_getIv (x := nI r) 11 dX10_step_29 fX10_104 rfl (by decide) hS hR ?_
  refine mg_iald dX10_step_32 rfl rfl rfl (by omega) hS ?_
  rw [hs]
  refine g_bipushV (v := 40) dX10_step_33 (by decide) ?_
  refine g_icmp_ne 41 dX10_step_35 (by decide) (fun _ => ?_) (fun q => absurd q (fun z => absurd ((nI_eq (b := 40) (by omega) (by decide)).mp z) (by omega)))
  refine g_bipushV (v := 40) dX10_step_41 (by decide) ?_
  refine g_aload_n dX10_step_43 rfl ?_
  refine mg_getIv (x := nI r) 11 dX10_step_44 fX10_104 rfl (by decide) hS hR ?_
  refine g_imul dX10_step_47 ?_
  refine g_aload_n dX10_step_48 rfl ?_
  refine mg_getA 6 6 dX10_step_49 fX10_28 rfl rt_6 hS ?_
  refine g_aload_n dX10_step_52 rfl ?_
  refine mg_getIv (x := nI r) 11 dX10_step_53 fX10_104 rfl (by decide) hS hR ?_
  refine mg_iald dX10_step_56 rfl rfl rfl (by omega) hS ?_
  rw [hs]
  refine g_iadd dX10_step_57 ?_
  rw [e4]
  refine g_istore dX10_step_58 (by decide) rfl ?_
  refine g_aload_n dX10_step_60 rfl ?_
  refine mg_getA 0 0 dX10_step_61 fX10_7 rfl rt_0 hS ?_
  refine g_iload dX10_step_64 rfl ?_
  refine g_iload_n dX10_step_66 rfl ?_
  refine mg_iast dX10_step_67 rfl rfl rfl (by omega) hS ?_
  refine g_aload_n dX10_step_68 rfl ?_
  refine mg_getA 1 1 dX10_step_69 fX10_13 rfl rt_1 hS ?_
  refine g_iload dX10_step_72 rfl ?_
  refine g_iload_n dX10_step_74 rfl ?_
  refine mg_iast dX10_step_75 rfl rfl rfl (by omega) hS ?_
  refine g_aload_n dX10_step_76 rfl ?_
  refine mg_getA 2 2 dX10_step_77 fX10_16 rfl rt_2 hS ?_
  refine g_iload dX10_step_80 rfl ?_
  refine g_iload_n dX10_step_82 rfl ?_
  refine mg_iast dX10_step_83 rfl rfl rfl (by omega) hS ?_
  refine g_aload_n dX10_step_84 rfl ?_
  refine mg_getA 3 3 dX10_step_85 fX10_19 rfl rt_3 hS ?_
  refine g_iload dX10_step_88 rfl ?_
  refine g_iload dX10_step_90 rfl ?_
  refine mg_iast dX10_step_92 rfl rfl rfl (by omega) hS ?_
  refine g_aload_n dX10_step_93 rfl ?_
  refine mg_getA 6 6 dX10_step_94 fX10_28 rfl rt_6 hS ?_
  refine g_aload_n dX10_step_97 rfl ?_
  refine mg_getIv (x := nI r) 11 dX10_step_98 fX10_104 rfl (by decide) hS hR ?_
  refine g_dup2 dX10_step_101 rfl rfl ?_
  refine mg_iald dX10_step_102 rfl rfl rfl (by omega) hS ?_
  rw [show mA (sA (sA (sA (sA σ 0 (40 * r + s) (nI 3)) 1 (40 * r + s) a) 2 (40 * r + s) b) 3 (40 * r + s) c) 6 r = nI s from h6s]
  refine g_iconstV (v := 1) dX10_step_103 (by decide) ?_
  refine g_iadd dX10_step_104 ?_
  rw [show nI s + 1 = nI (s + 1) from nI_1 s]
  refine mg_iast dX10_step_105 rfl rfl rfl (by omega) hS ?_
  rw [mSt_eq]
  refine g_iload_n dX10_step_106 rfl ?_
  refine g_callS (d1 := d - 1) (As := [_]) dX10_step_107 sX10_118 (by omega) rfl rfl (Nat.le_of_ble_eq_true rfl) ?_
  refine m_isBlock ?_
  refine g_if_eq 174 dX10_step_110 (by decide) (fun _ => ?_) (fun q => absurd (by decide) q)
  refine g_iload_n dX10_step_174 rfl ?_
  refine g_iconstV (v := 2) dX10_step_175 (by decide) ?_
  refine g_icmp_eq 188 dX10_step_176 (by decide) (fun q => absurd q (by decide)) (fun _ => ?_)
  refine g_iload_n dX10_step_179 rfl ?_
  refine g_iconstV (v := 3) dX10_step_180 (by decide) ?_
  refine g_icmp_eq 188 dX10_step_181 (by decide) (fun _ => ?_) (fun q => absurd (rfl) q)
  refine g_bipushV (v := 6) dX10_step_188 (by decide) ?_
  refine g_aload_n dX10_step_190 rfl ?_
  refine mg_getIv (x := nI r) 11 dX10_step_191 fX10_104 rfl (by decide) hS hR ?_
  refine g_imul dX10_step_194 ?_
  refine g_aload_n dX10_step_195 rfl ?_
  refine mg_getA 7 7 dX10_step_196 fX10_31 rfl rt_7 hS ?_
  refine g_aload_n dX10_step_199 rfl ?_
  refine mg_getIv (x := nI r) 11 dX10_step_200 fX10_104 rfl (by decide) hS hR ?_
  refine mg_iald dX10_step_203 rfl rfl rfl (by omega) hS ?_
  rw [hX7]
  refine g_iadd dX10_step_204 ?_
  rw [e6]
  refine g_iconstV (v := 1) dX10_step_205 (by decide) ?_
  refine g_isub dX10_step_206 ?_
  rw [et]
  refine g_istore dX10_step_207 (by decide) rfl ?_
  refine g_aload_n dX10_step_209 rfl ?_
  refine mg_getA 5 5 dX10_step_210 fX10_25 rfl rt_5 hS ?_
  refine g_aload_n dX10_step_213 rfl ?_
  refine mg_getA 9 9 dX10_step_214 fX10_37 rfl rt_9 hS ?_
  refine g_iload dX10_step_217 rfl ?_
  refine mg_iald dX10_step_219 rfl rfl rfl (by omega) hS ?_
  rw [b2]
  refine g_iload dX10_step_220 rfl ?_
  refine mg_iast dX10_step_222 rfl rfl rfl (by omega) hS ?_
  refine g_aload_n dX10_step_223 rfl ?_
  refine mg_getA 9 9 dX10_step_224 fX10_37 rfl rt_9 hS ?_
  refine g_iload dX10_step_227 rfl ?_
  refine g_iload dX10_step_229 rfl ?_
  refine mg_iast dX10_step_231 rfl rfl rfl (by omega) hS ?_
  refine g_aload_n dX10_step_232 rfl ?_
  refine mg_getA 10 10 dX10_step_233 fX10_40 rfl rt_10 hS ?_
  refine g_iload dX10_step_236 rfl ?_
  refine g_dup2 dX10_step_238 rfl rfl ?_
  refine mg_iald dX10_step_239 rfl rfl rfl (by omega) hS ?_
  rw [show mA (sA (sA (mSt σ r s (nI 3) a b c) 5 (40 * r + p) (nI (40 * r + s))) 9 (6 * r + bs.length) (nI (40 * r + s))) 10 (6 * r + bs.length) = nI x by rw [mA_sA, if_neg (by omega), mA_sA, if_neg (by omega)]; exact b3]
  refine g_iload_n dX10_step_240 rfl ?_
  refine g_iconstV (v := 2) dX10_step_241 (by decide) ?_
  refine g_icmp_ne 249 dX10_step_242 (by decide) (fun _ => ?_) (fun q => absurd q (by decide))
  refine g_iconstV (v := 0) dX10_step_249 (by decide) ?_
  refine g_iadd dX10_step_250 ?_
  rw [show nI x + 0 = (nI x) from Int32.add_zero _]
  refine mg_iast dX10_step_251 rfl rfl rfl (by omega) hS ?_
  rw [show sA (sA (sA (mSt σ r s (nI 3) a b c) 5 (40 * r + p) (nI (40 * r + s))) 9 (6 * r + bs.length) (nI (40 * r + s))) 10 (6 * r + bs.length) (nI x) = mStP (mSt σ r s (nI 3) a b c) r s bs.length (40 * r + p) (nI x) from rfl]
  refine g_iload_n dX10_step_252 rfl ?_
  refine g_if_ne 283 dX10_step_253 (by decide) (fun _ => ?_) (fun q => absurd q (by decide))
  refine g_aload_n dX10_step_283 rfl ?_
  refine mg_getA 6 6 dX10_step_284 fX10_28 rfl rt_6 hS ?_
  refine g_aload_n dX10_step_287 rfl ?_
  refine mg_getIv (x := nI r) 11 dX10_step_288 fX10_104 rfl (by decide) hS hR ?_
  refine mg_iald dX10_step_291 rfl rfl rfl (by omega) hS ?_
  rw [show mA (mStP (mSt σ r s (nI 3) a b c) r s bs.length (40 * r + p) (nI x)) 6 r = nI (s + 1) from E291]
  refine g_iret dX10_step_292 rfl ?_
  exact k
set_option maxHeartbeats 4000000 in
set_option maxRecDepth 20000 in
theorem m_stepEnd {g : GE} {d : Nat} {w : GW} {σ : MW} {Q : Option Value → GW → Prop} (hd : 3 ≤ d) (hS : SK g w) {r s : Nat} {o p x : Nat} {bs : List (Nat × Nat × Nat)} (hX : MX σ r ((o, p, x) :: bs)) (hLp : ∀ j, j < ((o, p, x) :: bs).length → mA σ 0 (40 * r + (nth ((o, p, x) :: bs) j).1) = 4 → ¬ mA σ 0 (40 * r + (nth ((o, p, x) :: bs) j).2.1) = 3) {a b c : Int32} (ht : fT 0 a b c = 1) (hm : fMay (fun i => mA σ 0 (40 * r + i)) 0 ((o, p, x) :: bs) = 1) (hs : mA σ 6 r = nI s) (h40 : s < 40) (k : Q (some (.int (nI (s + 1)))) (put g (mStE (mStP (mSt σ r s (nI 0) a b c) r s bs.length (40 * r + p) (nI x)) r s bs.length (40 * r + o)) w)) : gM g d mX10_step [.ref (eB g + 70), .int (nI 0), .int a, .int b, .int c] (put g σ w) Q := by
  refine gM.of (by decide) (Nat.le_of_ble_eq_true rfl) ?_
  obtain ⟨hR, hr4, hD, hL, hK⟩ := id hX
  have e4 : ∀ k, (40 : Int32) * nI r + nI k = nI (40 * r + k) := fun k => by rw [show (40 : Int32) = nI 40 from rfl, pk_mul, nI_add]
  have e6 : ∀ k, (6 : Int32) * nI r + nI k = nI (6 * r + k) := fun k => by rw [show (6 : Int32) = nI 6 from rfl, pk_mul, nI_add]
  have hR2 : ∀ τ : MW, mI τ 11 = mI σ 11 → mI τ 11 = nI r := fun τ h => h.trans hR
  have h6s : mA σ 6 r = nI s := hs
  obtain ⟨a1, a2, a3, a4, a5, a6⟩ := hK bs.length (by rw [List.length_cons]; omega)
  rw [nth_top] at a1 a2 a3 a4 a5 a6
  have a4' : o < 40 := a4
  have a5' : p < 40 := a5
  have a6' : x ≤ 3 := a6
  rw [List.length_cons] at hL
  have hX7 : mA (mSt σ r s (nI 0) a b c) 7 r = nI (bs.length + 1) := by rw [mSt_old _ _ _ _ _ _ _ _ _ (by omega)]; exact hD
  have b1 : mA (mSt σ r s (nI 0) a b c) 8 (6 * r + bs.length) = nI (40 * r + o) := by rw [mSt_old _ _ _ _ _ _ _ _ _ (by omega)]; exact a1
  have b2 : mA (mSt σ r s (nI 0) a b c) 9 (6 * r + bs.length) = nI (40 * r + p) := by rw [mSt_old _ _ _ _ _ _ _ _ _ (by omega)]; exact a2
  have b3 : mA (mSt σ r s (nI 0) a b c) 10 (6 * r + bs.length) = nI x := by rw [mSt_old _ _ _ _ _ _ _ _ _ (by omega)]; exact a3
  have et : nI (6 * r + (bs.length + 1)) - 1 = nI (6 * r + bs.length) := by rw [show 6 * r + (bs.length + 1) = 6 * r + bs.length + 1 by omega, ← nI_1]; simp
  have hv : 0 < 25 := by decide
  have c1' : mA (mStP (mSt σ r s (nI 0) a b c) r s bs.length (40 * r + p) (nI x)) 8 (6 * r + bs.length) = nI (40 * r + o) := by unfold mStP; rw [mA_sA, if_neg (by omega), mA_sA, if_neg (by omega), mA_sA, if_neg (by omega)]; exact b1
  have c7 : mA (sA (mStP (mSt σ r s (nI 0) a b c) r s bs.length (40 * r + p) (nI x)) 4 (40 * r + o) (nI (40 * r + s))) 7 r = nI (bs.length + 1) := by unfold mStP; rw [mA_sA, if_neg (by omega), mA_sA, if_neg (by omega), mA_sA, if_neg (by omega), mA_sA, if_neg (by omega)]; exact hX7
  have E291 : mA (mStE (mStP (mSt σ r s (nI 0) a b c) r s bs.length (40 * r + p) (nI x)) r s bs.length (40 * r + o)) 6 r = nI (s + 1) := by unfold mStE mStP; rw [mA_sA, if_neg (by omega), mA_sA, if_neg (by omega), mA_sA, if_neg (by omega), mA_sA, if_neg (by omega), mA_sA, if_neg (by omega), mSt_6]
  refine g_iload_n dX10_step_0 rfl ?_
  refine g_iload_n dX10_step_1 rfl ?_
  refine g_iload_n dX10_step_2 rfl ?_
  refine g_iload dX10_step_3 rfl ?_
  refine g_callS (d1 := d - 1) (As := [_, _, _, _]) dX10_step_5 sX10_125 (by omega) rfl rfl (Nat.le_of_ble_eq_true rfl) ?_
  refine m_told (by omega) hv ?_
  refine g_if_ne 13 dX10_step_8 (by decide) (fun _ => ?_) (fun q => absurd q (by rw [ht]; decide))
  refine g_aload_n dX10_step_13 rfl ?_
  refine g_iload_n dX10_step_14 rfl ?_
  refine g_callV (d1 := d - 1) (As := [_]) 9 dX10_step_15 vX10_129 (by omega) (mg_ob hS) rfl rfl (Nat.le_of_ble_eq_true rfl) ?_
  refine m_mayStand (by omega) hS hX hLp hv ?_
  refine g_if_ne 24 dX10_step_18 (by decide) (fun _ => ?_) (fun q => absurd q (by rw [hm]; decide))
  refine g_aload_n dX10_step_24 rfl ?_
  refine mg_getA 6 6 dX10_step_25 fX10_28 rfl rt_6 hS ?_
  refine g_aload_n dX10_step_28 rfl ?_
  refine mg_getIv (x := nI r) 11 dX10_step_29 fX10_104 rfl (by decide) hS hR ?_
  refine mg_iald dX10_step_32 rfl rfl rfl (by omega) hS ?_
  rw [hs]
  refine g_bipushV (v := 40) dX10_step_33 (by decide) ?_
  refine g_icmp_ne 41 dX10_step_35 (by decide) (fun _ => ?_) (fun q => absurd q (fun z => absurd ((nI_eq (b := 40) (by omega) (by decide)).mp z) (by omega)))
  refine g_bipushV (v := 40) dX10_step_41 (by decide) ?_
  refine g_aload_n dX10_step_43 rfl ?_
  refine mg_getIv (x := nI r) 11 dX10_step_44 fX10_104 rfl (by decide) hS hR ?_
  refine g_imul dX10_step_47 ?_
  refine g_aload_n dX10_step_48 rfl ?_
  refine mg_getA 6 6 dX10_step_49 fX10_28 rfl rt_6 hS ?_
  refine g_aload_n dX10_step_52 rfl ?_
  refine mg_getIv (x := nI r) 11 dX10_step_53 fX10_104 rfl (by decide) hS hR ?_
  refine mg_iald dX10_step_56 rfl rfl rfl (by omega) hS ?_
  rw [hs]
  refine g_iadd dX10_step_57 ?_
  rw [e4]
  refine g_istore dX10_step_58 (by decide) rfl ?_
  refine g_aload_n dX10_step_60 rfl ?_
  refine mg_getA 0 0 dX10_step_61 fX10_7 rfl rt_0 hS ?_
  refine g_iload dX10_step_64 rfl ?_
  refine g_iload_n dX10_step_66 rfl ?_
  refine mg_iast dX10_step_67 rfl rfl rfl (by omega) hS ?_
  refine g_aload_n dX10_step_68 rfl ?_
  refine mg_getA 1 1 dX10_step_69 fX10_13 rfl rt_1 hS ?_
  refine g_iload dX10_step_72 rfl ?_
  refine g_iload_n dX10_step_74 rfl ?_
  refine mg_iast dX10_step_75 rfl rfl rfl (by omega) hS ?_
  refine g_aload_n dX10_step_76 rfl ?_
  refine mg_getA 2 2 dX10_step_77 fX10_16 rfl rt_2 hS ?_
  refine g_iload dX10_step_80 rfl ?_
  refine g_iload_n dX10_step_82 rfl ?_
  refine mg_iast dX10_step_83 rfl rfl rfl (by omega) hS ?_
  refine g_aload_n dX10_step_84 rfl ?_
  refine mg_getA 3 3 dX10_step_85 fX10_19 rfl rt_3 hS ?_
  refine g_iload dX10_step_88 rfl ?_
  refine g_iload dX10_step_90 rfl ?_
  refine mg_iast dX10_step_92 rfl rfl rfl (by omega) hS ?_
  refine g_aload_n dX10_step_93 rfl ?_
  refine mg_getA 6 6 dX10_step_94 fX10_28 rfl rt_6 hS ?_
  refine g_aload_n dX10_step_97 rfl ?_
  refine mg_getIv (x := nI r) 11 dX10_step_98 fX10_104 rfl (by decide) hS hR ?_
  refine g_dup2 dX10_step_101 rfl rfl ?_
  refine mg_iald dX10_step_102 rfl rfl rfl (by omega) hS ?_
  rw [show mA (sA (sA (sA (sA σ 0 (40 * r + s) (nI 0)) 1 (40 * r + s) a) 2 (40 * r + s) b) 3 (40 * r + s) c) 6 r = nI s from h6s]
  refine g_iconstV (v := 1) dX10_step_103 (by decide) ?_
  refine g_iadd dX10_step_104 ?_
  rw [show nI s + 1 = nI (s + 1) from nI_1 s]
  refine mg_iast dX10_step_105 rfl rfl rfl (by omega) hS ?_
  rw [mSt_eq]
  refine g_iload_n dX10_step_106 rfl ?_
  refine g_callS (d1 := d - 1) (As := [_]) dX10_step_107 sX10_118 (by omega) rfl rfl (Nat.le_of_ble_eq_true rfl) ?_
  refine m_isBlock ?_
  refine g_if_eq 174 dX10_step_110 (by decide) (fun _ => ?_) (fun q => absurd (by decide) q)
  refine g_iload_n dX10_step_174 rfl ?_
  refine g_iconstV (v := 2) dX10_step_175 (by decide) ?_
  refine g_icmp_eq 188 dX10_step_176 (by decide) (fun q => absurd q (by decide)) (fun _ => ?_)
  refine g_iload_n dX10_step_179 rfl ?_
  refine g_iconstV (v := 3) dX10_step_180 (by decide) ?_
  refine g_icmp_eq 188 dX10_step_181 (by decide) (fun q => absurd q (by decide)) (fun _ => ?_)
  refine g_iload_n dX10_step_184 rfl ?_
  refine g_if_ne 283 dX10_step_185 (by decide) (fun q => absurd (rfl) q) (fun _ => ?_)
  refine g_bipushV (v := 6) dX10_step_188 (by decide) ?_
  refine g_aload_n dX10_step_190 rfl ?_
  refine mg_getIv (x := nI r) 11 dX10_step_191 fX10_104 rfl (by decide) hS hR ?_
  refine g_imul dX10_step_194 ?_
  refine g_aload_n dX10_step_195 rfl ?_
  refine mg_getA 7 7 dX10_step_196 fX10_31 rfl rt_7 hS ?_
  refine g_aload_n dX10_step_199 rfl ?_
  refine mg_getIv (x := nI r) 11 dX10_step_200 fX10_104 rfl (by decide) hS hR ?_
  refine mg_iald dX10_step_203 rfl rfl rfl (by omega) hS ?_
  rw [hX7]
  refine g_iadd dX10_step_204 ?_
  rw [e6]
  refine g_iconstV (v := 1) dX10_step_205 (by decide) ?_
  refine g_isub dX10_step_206 ?_
  rw [et]
  refine g_istore dX10_step_207 (by decide) rfl ?_
  refine g_aload_n dX10_step_209 rfl ?_
  refine mg_getA 5 5 dX10_step_210 fX10_25 rfl rt_5 hS ?_
  refine g_aload_n dX10_step_213 rfl ?_
  refine mg_getA 9 9 dX10_step_214 fX10_37 rfl rt_9 hS ?_
  refine g_iload dX10_step_217 rfl ?_
  refine mg_iald dX10_step_219 rfl rfl rfl (by omega) hS ?_
  rw [b2]
  refine g_iload dX10_step_220 rfl ?_
  refine mg_iast dX10_step_222 rfl rfl rfl (by omega) hS ?_
  refine g_aload_n dX10_step_223 rfl ?_
  refine mg_getA 9 9 dX10_step_224 fX10_37 rfl rt_9 hS ?_
  refine g_iload dX10_step_227 rfl ?_
  refine g_iload dX10_step_229 rfl ?_
  refine mg_iast dX10_step_231 rfl rfl rfl (by omega) hS ?_
  refine g_aload_n dX10_step_232 rfl ?_
  refine mg_getA 10 10 dX10_step_233 fX10_40 rfl rt_10 hS ?_
  refine g_iload dX10_step_236 rfl ?_
  refine g_dup2 dX10_step_238 rfl rfl ?_
  refine mg_iald dX10_step_239 rfl rfl rfl (by omega) hS ?_
  rw [show mA (sA (sA (mSt σ r s (nI 0) a b c) 5 (40 * r + p) (nI (40 * r + s))) 9 (6 * r + bs.length) (nI (40 * r + s))) 10 (6 * r + bs.length) = nI x by rw [mA_sA, if_neg (by omega), mA_sA, if_neg (by omega)]; exact b3]
  refine g_iload_n dX10_step_240 rfl ?_
  refine g_iconstV (v := 2) dX10_step_241 (by decide) ?_
  refine g_icmp_ne 249 dX10_step_242 (by decide) (fun _ => ?_) (fun q => absurd q (by decide))
  refine g_iconstV (v := 0) dX10_step_249 (by decide) ?_
  refine g_iadd dX10_step_250 ?_
  rw [show nI x + 0 = (nI x) from Int32.add_zero _]
  refine mg_iast dX10_step_251 rfl rfl rfl (by omega) hS ?_
  rw [show sA (sA (sA (mSt σ r s (nI 0) a b c) 5 (40 * r + p) (nI (40 * r + s))) 9 (6 * r + bs.length) (nI (40 * r + s))) 10 (6 * r + bs.length) (nI x) = mStP (mSt σ r s (nI 0) a b c) r s bs.length (40 * r + p) (nI x) from rfl]
  refine g_iload_n dX10_step_252 rfl ?_
  refine g_if_ne 283 dX10_step_253 (by decide) (fun q => absurd (rfl) q) (fun _ => ?_)
  refine g_aload_n dX10_step_256 rfl ?_
  refine mg_getA 4 4 dX10_step_257 fX10_22 rfl rt_4 hS ?_
  refine g_aload_n dX10_step_260 rfl ?_
  refine mg_getA 8 8 dX10_step_261 fX10_34 rfl rt_8 hS ?_
  refine g_iload dX10_step_264 rfl ?_
  refine mg_iald dX10_step_266 rfl rfl rfl (by omega) hS ?_
  rw [c1']
  refine g_iload dX10_step_267 rfl ?_
  refine mg_iast dX10_step_269 rfl rfl rfl (by omega) hS ?_
  refine g_aload_n dX10_step_270 rfl ?_
  refine mg_getA 7 7 dX10_step_271 fX10_31 rfl rt_7 hS ?_
  refine g_aload_n dX10_step_274 rfl ?_
  refine mg_getIv (x := nI r) 11 dX10_step_275 fX10_104 rfl (by decide) hS hR ?_
  refine g_dup2 dX10_step_278 rfl rfl ?_
  refine mg_iald dX10_step_279 rfl rfl rfl (by omega) hS ?_
  rw [c7]
  refine g_iconstV (v := 1) dX10_step_280 (by decide) ?_
  refine g_isub dX10_step_281 ?_
  rw [show nI (bs.length + 1) - 1 = nI bs.length by rw [← nI_1]; simp]
  refine mg_iast dX10_step_282 rfl rfl rfl (by omega) hS ?_
  rw [show sA (sA (mStP (mSt σ r s (nI 0) a b c) r s bs.length (40 * r + p) (nI x)) 4 (40 * r + o) (nI (40 * r + s))) 7 r (nI bs.length) = mStE (mStP (mSt σ r s (nI 0) a b c) r s bs.length (40 * r + p) (nI x)) r s bs.length (40 * r + o) from rfl]
  refine g_aload_n dX10_step_283 rfl ?_
  refine mg_getA 6 6 dX10_step_284 fX10_28 rfl rt_6 hS ?_
  refine g_aload_n dX10_step_287 rfl ?_
  refine mg_getIv (x := nI r) 11 dX10_step_288 fX10_104 rfl (by decide) hS hR ?_
  refine mg_iald dX10_step_291 rfl rfl rfl (by omega) hS ?_
  rw [show mA (mStE (mStP (mSt σ r s (nI 0) a b c) r s bs.length (40 * r + p) (nI x)) r s bs.length (40 * r + o)) 6 r = nI (s + 1) from E291]
  refine g_iret dX10_step_292 rfl ?_
  exact k
