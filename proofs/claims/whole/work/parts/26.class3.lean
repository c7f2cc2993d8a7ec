/-- a fault's fields written at a -/
def setF (w : GW) (a : Nat) (k p n e f t : Int32) : GW := setI (setI (setI (setI (setI (setI w 192 a k) 193 a p) 194 a n) 195 a e) 196 a f) 197 a t
set_option maxHeartbeats 4000000 in
set_option maxRecDepth 20000 in
theorem c_Fault0 {g : GE} {d : Nat} {w : GW} {Q : Option Value → GW → Prop} (hd : 1 ≤ d) {a : Nat} {kd pl nu : Int32} (ha : gOb g w a 3) (k : Q none (setF w a kd pl nu 0 pl (fWeight kd nu 1))) : gM g d mX3_init [.ref a, .int kd, .int pl, .int nu, .null] w Q := by
  refine gM.of (by decide) (Nat.le_of_ble_eq_true rfl) ?_
  refine g_aload_n dX3_init_0 rfl ?_
  refine g_objInit dX3_init_1 oX3_1 (by omega) (Nat.le_of_ble_eq_true rfl) ?_
  refine g_aload_n dX3_init_4 rfl ?_
  refine g_iload_n dX3_init_5 rfl ?_
  refine g_putFI 3 0 192 dX3_init_6 fX3_7 rfl rfl rfl rfl (by assumption) ?_
  refine g_aload_n dX3_init_9 rfl ?_
  refine g_iload_n dX3_init_10 rfl ?_
  refine g_putFI 3 1 193 dX3_init_11 fX3_13 rfl rfl rfl rfl (by assumption) ?_
  refine g_aload_n dX3_init_14 rfl ?_
  refine g_iload_n dX3_init_15 rfl ?_
  refine g_putFI 3 2 194 dX3_init_16 fX3_16 rfl rfl rfl rfl (by assumption) ?_
  refine g_aload_n dX3_init_19 rfl ?_
  refine g_aloadN dX3_init_20 rfl ?_
  refine g_ifnonnullN dX3_init_22 ?_
  refine g_iconstV (v := 0) dX3_init_25 (by decide) ?_
  refine g_goto 36 dX3_init_26 (by decide) ?_
  refine g_putFI 3 3 195 dX3_init_36 fX3_19 rfl rfl rfl rfl (by assumption) ?_
  refine g_aload_n dX3_init_39 rfl ?_
  refine g_aloadN dX3_init_40 rfl ?_
  refine g_ifnonnullN dX3_init_42 ?_
  refine g_iload_n dX3_init_45 rfl ?_
  refine g_goto 54 dX3_init_46 (by decide) ?_
  refine g_putFI 3 4 196 dX3_init_54 fX3_22 rfl rfl rfl rfl (by assumption) ?_
  refine g_aload_n dX3_init_57 rfl ?_
  refine g_iload_n dX3_init_58 rfl ?_
  refine g_iload_n dX3_init_59 rfl ?_
  refine g_aloadN dX3_init_60 rfl ?_
  refine g_ifnonnullN dX3_init_62 ?_
  refine g_iconstV (v := 1) dX3_init_65 (by decide) ?_
  refine g_goto 76 dX3_init_66 (by decide) ?_
  refine g_callS (d1 := d - 1) (As := [_, _, _]) dX3_init_76 sX3_28 (by omega) rfl rfl (Nat.le_of_ble_eq_true rfl) ?_
  refine c_weightOf ?_
  refine g_putFI 3 5 197 dX3_init_79 fX3_25 rfl rfl rfl rfl (by assumption) ?_
  refine g_vret dX3_init_82 rfl ?_
  exact k
set_option maxHeartbeats 4000000 in
set_option maxRecDepth 20000 in
theorem c_Fault1 {g : GE} {d : Nat} {w : GW} {Q : Option Value → GW → Prop} (hd : 1 ≤ d) {a e : Nat} {kd pl nu : Int32} (ha : gOb g w a 3) (he : gOb g w e 3) (k : Q none (setF w a kd pl nu (gI w 195 e + 1) (gI w 196 e) (fWeight kd nu (1 + gI w 197 e)))) : gM g d mX3_init [.ref a, .int kd, .int pl, .int nu, .ref e] w Q := by
  refine gM.of (by decide) (Nat.le_of_ble_eq_true rfl) ?_
  refine g_aload_n dX3_init_0 rfl ?_
  refine g_objInit dX3_init_1 oX3_1 (by omega) (Nat.le_of_ble_eq_true rfl) ?_
  refine g_aload_n dX3_init_4 rfl ?_
  refine g_iload_n dX3_init_5 rfl ?_
  refine g_putFI 3 0 192 dX3_init_6 fX3_7 rfl rfl rfl rfl (by assumption) ?_
  refine g_aload_n dX3_init_9 rfl ?_
  refine g_iload_n dX3_init_10 rfl ?_
  refine g_putFI 3 1 193 dX3_init_11 fX3_13 rfl rfl rfl rfl (by assumption) ?_
  refine g_aload_n dX3_init_14 rfl ?_
  refine g_iload_n dX3_init_15 rfl ?_
  refine g_putFI 3 2 194 dX3_init_16 fX3_16 rfl rfl rfl rfl (by assumption) ?_
  refine g_aload_n dX3_init_19 rfl ?_
  refine g_aload dX3_init_20 rfl ?_
  refine g_ifnonnull 29 dX3_init_22 (by decide) ?_
  refine g_aload dX3_init_29 rfl ?_
  refine g_getI 3 3 195 dX3_init_31 fX3_19 rfl rfl (by assumption) ?_
  refine g_iconstV (v := 1) dX3_init_34 (by decide) ?_
  refine g_iadd dX3_init_35 ?_
  refine g_putFI 3 3 195 dX3_init_36 fX3_19 rfl rfl rfl rfl (by assumption) ?_
  refine g_aload_n dX3_init_39 rfl ?_
  refine g_aload dX3_init_40 rfl ?_
  refine g_ifnonnull 49 dX3_init_42 (by decide) ?_
  refine g_aload dX3_init_49 rfl ?_
  refine g_getI 3 4 196 dX3_init_51 fX3_22 rfl rfl (by assumption) ?_
  refine g_putFI 3 4 196 dX3_init_54 fX3_22 rfl rfl rfl rfl (by assumption) ?_
  refine g_aload_n dX3_init_57 rfl ?_
  refine g_iload_n dX3_init_58 rfl ?_
  refine g_iload_n dX3_init_59 rfl ?_
  refine g_aload dX3_init_60 rfl ?_
  refine g_ifnonnull 69 dX3_init_62 (by decide) ?_
  refine g_iconstV (v := 1) dX3_init_69 (by decide) ?_
  refine g_aload dX3_init_70 rfl ?_
  refine g_getI 3 5 197 dX3_init_72 fX3_25 rfl rfl (by assumption) ?_
  refine g_iadd dX3_init_75 ?_
  refine g_callS (d1 := d - 1) (As := [_, _, _]) dX3_init_76 sX3_28 (by omega) rfl rfl (Nat.le_of_ble_eq_true rfl) ?_
  refine c_weightOf ?_
  refine g_putFI 3 5 197 dX3_init_79 fX3_25 rfl rfl rfl rfl (by assumption) ?_
  refine g_vret dX3_init_82 rfl ?_
  exact k
set_option maxHeartbeats 4000000 in
set_option maxRecDepth 20000 in
theorem c_isUnder_loop {g : GE} {d : Nat} {w : GW} {Q : Option Value → GW → Prop} (hl : eOL g 4 = 12) (ha : ∀ j, j < 12 → eOF g 4 j = aTab j) {kd over : Int32} : ∀ m i k0 : Nat, i + m = 12 → k0 < 12 → Q (some (.int (fU over m k0))) w → gF g d mX3_isUnder 4 [(3, .int (nI i)), (2, .int (nI k0)), (0, .int kd), (1, .int over)] [] w Q
  | 0, i, k0, hi, hk, k => by
    have e : i = 12 := by omega
    subst e
    refine g_iload_n dX3_isUnder_4 rfl ?_
    refine g_gets 4 dX3_isUnder_5 (by decide) zX3_32 ?_
    refine g_rolen dX3_isUnder_8 (by decide) ?_
    rw [hl]
    refine g_icmp_ge 43 dX3_isUnder_9 (by decide) (fun _ => ?_) (fun q => absurd (by decide) q)
    refine g_iconstV (v := 0) dX3_isUnder_43 (by decide) ?_
    refine g_zret dX3_isUnder_44 rfl rfl ?_
    exact k
  | m + 1, i, k0, hi, hk, k => by
    have hi4 : ¬ nI 12 ≤ nI i := nI_ge (by omega) (by decide)
    have hk4 : ¬ nI 12 ≤ nI k0 := nI_ge (by omega) (by decide)
    obtain ⟨ea, eb⟩ := aTab_nI k0 hk
    refine g_iload_n dX3_isUnder_4 rfl ?_
    refine g_gets 4 dX3_isUnder_5 (by decide) zX3_32 ?_
    refine g_rolen dX3_isUnder_8 (by decide) ?_
    rw [hl]
    refine g_icmp_ge 43 dX3_isUnder_9 (by decide) (fun q => absurd q (hi4)) (fun _ => ?_)
    refine g_iload_n dX3_isUnder_12 rfl ?_
    refine g_if_le 43 dX3_isUnder_13 (by decide) (fun c1 => ?_) (fun c1 => ?_)
    · refine g_iconstV (v := 0) dX3_isUnder_43 (by decide) ?_
      refine g_zret dX3_isUnder_44 rfl rfl ?_
      have hk0 : k0 = 0 := (Nat.eq_zero_or_pos k0).resolve_right (fun q => absurd c1 (nI_nle q (by omega)))
      rw [fU, if_pos hk0] at k
      exact k
    · refine g_iload_n dX3_isUnder_16 rfl ?_
      refine g_gets 4 dX3_isUnder_17 (by decide) zX3_32 ?_
      refine g_rolen dX3_isUnder_20 (by decide) ?_
      rw [hl]
      refine g_icmp_ge 43 dX3_isUnder_21 (by decide) (fun q => absurd q (hk4)) (fun _ => ?_)
      refine g_iload_n dX3_isUnder_24 rfl ?_
      refine g_iload_n dX3_isUnder_25 rfl ?_
      refine g_icmp_ne 31 dX3_isUnder_26 (by decide) (fun c2 => ?_) (fun c2 => ?_)
      · refine g_gets 4 dX3_isUnder_31 (by decide) zX3_32 ?_
        refine g_iload_n dX3_isUnder_34 rfl ?_
        refine g_roald dX3_isUnder_35 (by decide) rfl (by rw [hl]; exact hk) ?_
        rw [ha k0 hk, ea]
        refine g_istore_n (lz := [(2, .int (nI (aTab k0).toNatClampNeg)), (3, .int (nI i)), (0, .int kd), (1, .int over)]) dX3_isUnder_36 (by decide) rfl ?_
        refine g_iinc (lz := [(3, .int (nI (i + 1))), (2, .int (nI (aTab k0).toNatClampNeg)), (0, .int kd), (1, .int over)]) dX3_isUnder_37 rfl (by decide) (by rw [show nI i + Int32.ofInt 1 = nI (i + 1) from nI_1 i]; rfl) ?_
        refine g_goto 4 dX3_isUnder_40 (by decide) ?_
        have hk0 : ¬ k0 = 0 := fun q => c1 (by subst q; decide)
        rw [fU, if_neg hk0, if_neg c2] at k
        exact c_isUnder_loop hl ha m (i + 1) _ (by omega) eb k
      · refine g_iconstV (v := 1) dX3_isUnder_29 (by decide) ?_
        refine g_zret dX3_isUnder_30 rfl rfl ?_
        have hk0 : ¬ k0 = 0 := fun q => c1 (by subst q; decide)
        rw [fU, if_neg hk0, if_pos c2] at k
        exact k
theorem fU_stop (over : Int32) : ∀ n, fU over n 0 = 0
  | 0 => rfl
  | n + 1 => by rw [fU, if_pos rfl]
/-- four looks are enough, from any kind that a fault has -/
theorem fU_12 (over : Int32) : ∀ k, k < 12 → fU over 12 k = fU over 4 k := by
  intro k hk
  rcases (show k = 0 ∨ k = 1 ∨ k = 2 ∨ k = 3 ∨ k = 4 ∨ k = 5 ∨ k = 6 ∨ k = 7 ∨ k = 8 ∨ k = 9 ∨ k = 10 ∨ k = 11 by omega) with rfl | rfl | rfl | rfl | rfl | rfl | rfl | rfl | rfl | rfl | rfl | rfl <;> simp [fU, aTab]
set_option maxHeartbeats 4000000 in
set_option maxRecDepth 20000 in
theorem c_isUnder {g : GE} {d : Nat} {w : GW} {Q : Option Value → GW → Prop} {k0 : Nat} {over : Int32} (hl : eOL g 4 = 12) (ha : ∀ j, j < 12 → eOF g 4 j = aTab j) (hk : k0 < 12) (k : Q (some (.int (fU over 4 k0))) w) : gM g d mX3_isUnder [.int (nI k0), .int over] w Q := by
  refine gM.of (by decide) (Nat.le_of_ble_eq_true rfl) ?_
  refine g_iload_n dX3_isUnder_0 rfl ?_
  refine g_istore_n dX3_isUnder_1 (by decide) rfl ?_
  refine g_iconstV (v := 0) dX3_isUnder_2 (by decide) ?_
  refine g_istore_n dX3_isUnder_3 (by decide) rfl ?_
  exact c_isUnder_loop hl ha 12 0 k0 (by omega) hk (by rw [fU_12 over k0 hk]; exact k)
def setS (w : GW) (q : Nat) (what a b c num pl : Int32) : GW := setI (setI (setI (setI (setI (setI (setI w 448 q what) 449 q a) 450 q b) 451 q c) 452 q num) 453 q pl) 454 q num
set_option maxHeartbeats 4000000 in
set_option maxRecDepth 20000 in
theorem c_Step_init {g : GE} {d : Nat} {w : GW} {Q : Option Value → GW → Prop} {q : Nat} {what a b c num pl : Int32} (hq : gOb g w q 7) (hd1 : 1 ≤ d) (k : Q none (setS w q what a b c num pl)) : gM g d mX7_init [.ref q, .int what, .int a, .int b, .int c, .int num, .int pl] w Q := by
  refine gM.of (by decide) (Nat.le_of_ble_eq_true rfl) ?_
  refine g_aload_n dX7_init_0 rfl ?_
  refine g_objInit dX7_init_1 oX7_1 (by omega) (Nat.le_of_ble_eq_true rfl) ?_
  refine g_aload_n dX7_init_4 rfl ?_
  refine g_iload_n dX7_init_5 rfl ?_
  refine g_putFI 7 0 448 dX7_init_6 fX7_7 rfl rfl rfl rfl (by assumption) ?_
  refine g_aload_n dX7_init_9 rfl ?_
  refine g_iload_n dX7_init_10 rfl ?_
  refine g_putFI 7 1 449 dX7_init_11 fX7_13 rfl rfl rfl rfl (by assumption) ?_
  refine g_aload_n dX7_init_14 rfl ?_
  refine g_iload_n dX7_init_15 rfl ?_
  refine g_putFI 7 2 450 dX7_init_16 fX7_16 rfl rfl rfl rfl (by assumption) ?_
  refine g_aload_n dX7_init_19 rfl ?_
  refine g_iload dX7_init_20 rfl ?_
  refine g_putFI 7 3 451 dX7_init_22 fX7_19 rfl rfl rfl rfl (by assumption) ?_
  refine g_aload_n dX7_init_25 rfl ?_
  refine g_iload dX7_init_26 rfl ?_
  refine g_putFI 7 4 452 dX7_init_28 fX7_22 rfl rfl rfl rfl (by assumption) ?_
  refine g_aload_n dX7_init_31 rfl ?_
  refine g_iload dX7_init_32 rfl ?_
  refine g_putFI 7 5 453 dX7_init_34 fX7_25 rfl rfl rfl rfl (by assumption) ?_
  refine g_aload_n dX7_init_37 rfl ?_
  refine g_iload dX7_init_38 rfl ?_
  refine g_putI 7 6 454 dX7_init_40 fX7_28 rfl rfl (by assumption) ?_
  refine g_vret dX7_init_43 rfl ?_
  exact k
set_option maxHeartbeats 4000000 in
set_option maxRecDepth 20000 in
theorem c_partEndN {g : GE} {d : Nat} {w : GW} {Q : Option Value → GW → Prop} {q : Nat} (hq : gOb g w q 7) (hn : gR w 455 q = none) (k : Q (some (.int (gI w 452 q))) w) : gM g d mX7_partEnd [.ref q] w Q := by
  refine gM.of (by decide) (Nat.le_of_ble_eq_true rfl) ?_
  refine g_aload_n dX7_partEnd_0 rfl ?_
  refine g_getN 7 7 455 dX7_partEnd_1 fX7_48 rfl rfl hq hn ?_
  refine g_ifnonnullN dX7_partEnd_4 ?_
  refine g_aload_n dX7_partEnd_7 rfl ?_
  refine g_getI 7 4 452 dX7_partEnd_8 fX7_22 rfl rfl (by assumption) ?_
  refine g_goto 21 dX7_partEnd_11 (by decide) ?_
  refine g_iret dX7_partEnd_21 rfl ?_
  exact k
set_option maxHeartbeats 4000000 in
set_option maxRecDepth 20000 in
theorem c_partEnd {g : GE} {d : Nat} {w : GW} {Q : Option Value → GW → Prop} {q p : Nat} (hq : gOb g w q 7) (hn : gR w 455 q = some p) (hp : gOb g w p 7) (k : Q (some (.int (gI w 452 p))) w) : gM g d mX7_partEnd [.ref q] w Q := by
  refine gM.of (by decide) (Nat.le_of_ble_eq_true rfl) ?_
  refine g_aload_n dX7_partEnd_0 rfl ?_
  refine g_getR 7 7 455 dX7_partEnd_1 fX7_48 rfl rfl (by assumption) (by assumption) ?_
  refine g_ifnonnull 14 dX7_partEnd_4 (by decide) ?_
  refine g_aload_n dX7_partEnd_14 rfl ?_
  refine g_getR 7 7 455 dX7_partEnd_15 fX7_48 rfl rfl (by assumption) (by assumption) ?_
  refine g_getI 7 4 452 dX7_partEnd_18 fX7_22 rfl rfl (by assumption) ?_
  refine g_iret dX7_partEnd_21 rfl ?_
  exact k
theorem g_putFN {g : GE} {d : Nat} {Y : GM} {pc : Nat} {ls : List (Nat × Value)} {st : List Value} {w : GW} {Q : Option Value → GW → Prop} {idx a : Nat} (ci k cc : Nat) (hd : decode Y.2.1 pc = .ok (.putfield idx, 3)) (hf : gfl Y.1.cls idx ci k true) (hin : Y.1.name = "<init>") (hdecl : Y.1.cls = (vwCl.getD ci ("", TX0, 0)).1) (hti : gTI ci k = false) (hnar : narrow (gTy ci k) .null = .null) (hfit : fits (gTy ci k) .null = true) (hcc : 64 * ci + k = cc) (ha : gOb g w a ci) (kk : gF g d Y (pc + 3) ls st (setR w cc a none) Q) : gF g d Y pc ls (.null :: .ref a :: st) w Q := by
  subst hcc
  refine kk.pure2 rfl rfl fun r w' h => ?_
  intro p e R s m args below meth c n0 u0 H locs lsA C h1 h2 h3 h4 h5 h6 h7
  obtain ⟨hx, hb, hml, hown, hts, hlk, hrt, hnm, hK, hZ, hAO, hdf, hdl⟩ := id C
  obtain ⟨hB, hN, hKa⟩ := ha
  have hat := h5.2.2.1 a hB hN
  obtain ⟨qc, hq, hkN, hlink, hfin, hcl⟩ := hf
  obtain ⟨z1, z2, z3, z4, z5⟩ := g_cl hq
  obtain ⟨cell, q1, q2, q3, q4⟩ := hat.obj hKa z5
  obtain ⟨hSl, hfc, kC, hkC, hkind⟩ := hK.1 ci _ hq
  obtain ⟨cf, kf, fi, f, hi, hsl⟩ := hSl k hkN
  
  
  have hlay := hts _ (z2 _ (u_in_lay hkN))
  unfold u_lay at hlay
  rw [if_pos hfin] at hlay
  have hst := (u_facts hfc hkC (u_lays hts z2 hkN) hi).1
  have hcf : m.cls = cf := by
    obtain ⟨_, _, c', _, _, _, -, -, hf', -, -, -, hown2, -⟩ := Cond.laysFinal_spec hlay
    have e1 : c' = cf := by have := hi.symm.trans hf'; simp at this; exact this.1.symm
    rw [hcl] at hown2
    have hq2 : (vwCl.getD ci ("", TX0, 0)).1 = qc.1 := by rw [List.getD_eq_getElem?_getD, hq]; rfl
    rw [hdecl, hq2] at hown
    rw [← e1]; exact Option.some.inj (hown.symm.trans hown2)
  have h8 := u_fits hfc hkC hkind (Or.inr hlay) hi (z3 k hkN) hnar hfit
  have hap := va_apart (own := Y.1.cls) hts z2 (gTy ci) z3 z4 hK hq
  refine W.putFinK hx hb hown (hts _ hlink) hi hst hcf (hnm.trans hin) (by rw [q2]; exact h8) q1 q3 (by rw [hsl]; exact k2_hasslot (q4 k (by rw [← z1]; exact hkN))) rfl rfl hd fun H1 e1 e2 e3 => ?_
  rw [hsl] at e1 ⊢
  refine h p e R s m args below meth c n0 u0 H1 _ lsA C h1 h2 h3 h4 ?_ (gS.put h6 hB e2 e3) h7
  refine h5.put hB e2 e3 rfl (fun y hy hat => hat.same rfl rfl (gV_setR_o hy) (fun _ _ => rfl)) ?_
  refine Or.inl ⟨by show gK w a < 10; omega, ?_⟩
  show t_OB a ((eG g).1 (gK w a)) (gNF (gK w a)) ((eG g).2 (gK w a)) H1 (gV (setR w (64 * ci + k) a none) (gK w a) a)
  rw [hKa]
  exact t_OB.to (V := updV (gV w ci a) k (va_rf none)) ⟨_, e1, q2, q3, fun j hj => t_set (fun j hj => q4 j (by rw [← z1]; exact hj)) hap hkN _ j (by rw [z1]; exact hj)⟩ (fun j _ => gV_setR hti j)
set_option maxHeartbeats 4000000 in
set_option maxRecDepth 20000 in
theorem c_Block_init {g : GE} {d : Nat} {w : GW} {Q : Option Value → GW → Prop} {q op ou : Nat} (hq : gOb g w q 1) (hd1 : 1 ≤ d) (k : Q none (setR (setR (setR w 64 q (some op)) 65 q (some ou)) 66 q (some op))) : gM g d mX1_init [.ref q, .ref op, .ref ou] w Q := by
  refine gM.of (by decide) (Nat.le_of_ble_eq_true rfl) ?_
  refine g_aload_n dX1_init_0 rfl ?_
  refine g_objInit dX1_init_1 oX1_1 (by omega) (Nat.le_of_ble_eq_true rfl) ?_
  refine g_aload_n dX1_init_4 rfl ?_
  refine g_aload_n dX1_init_5 rfl ?_
  refine g_putFR 1 0 64 dX1_init_6 fX1_7 rfl rfl rfl rfl rfl rfl (by assumption) ?_
  refine g_aload_n dX1_init_9 rfl ?_
  refine g_aload_n dX1_init_10 rfl ?_
  refine g_putFR 1 1 65 dX1_init_11 fX1_13 rfl rfl rfl rfl rfl rfl (by assumption) ?_
  refine g_aload_n dX1_init_14 rfl ?_
  refine g_aload_n dX1_init_15 rfl ?_
  refine g_putR 1 2 66 dX1_init_16 fX1_17 rfl rfl rfl rfl (by assumption) ?_
  refine g_vret dX1_init_19 rfl ?_
  exact k
set_option maxHeartbeats 4000000 in
set_option maxRecDepth 20000 in
theorem c_Block_init0 {g : GE} {d : Nat} {w : GW} {Q : Option Value → GW → Prop} {q op : Nat} (hq : gOb g w q 1) (hd1 : 1 ≤ d) (k : Q none (setR (setR (setR w 64 q (some op)) 65 q none) 66 q (some op))) : gM g d mX1_init [.ref q, .ref op, .null] w Q := by
  refine gM.of (by decide) (Nat.le_of_ble_eq_true rfl) ?_
  refine g_aload_n dX1_init_0 rfl ?_
  refine g_objInit dX1_init_1 oX1_1 (by omega) (Nat.le_of_ble_eq_true rfl) ?_
  refine g_aload_n dX1_init_4 rfl ?_
  refine g_aload_n dX1_init_5 rfl ?_
  refine g_putFR 1 0 64 dX1_init_6 fX1_7 rfl rfl rfl rfl rfl rfl (by assumption) ?_
  refine g_aload_n dX1_init_9 rfl ?_
  refine g_aload_nN dX1_init_10 rfl ?_
  refine g_putFN 1 1 65 dX1_init_11 fX1_13 rfl rfl rfl rfl rfl rfl (by assumption) ?_
  refine g_aload_n dX1_init_14 rfl ?_
  refine g_aload_n dX1_init_15 rfl ?_
  refine g_putR 1 2 66 dX1_init_16 fX1_17 rfl rfl rfl rfl (by assumption) ?_
  refine g_vret dX1_init_19 rfl ?_
  exact k
