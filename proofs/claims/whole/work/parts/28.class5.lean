/-- the method, called so in w, answers v and leaves w1 -/
def Ans (g : GE) (d : Nat) (Y : GM) (as : List Value) (w : GW) (v : Option Value) (w1 : GW) : Prop := ∀ Q : Option Value → GW → Prop, Q v w1 → gM g d Y as w Q
/-- Row.make: the first k places of row r made new -/
def cMk (g : GE) (w : GW) (r : Nat) : Nat → GW
  | 0 => w
  | k + 1 => setA (setD (cMk g w r k) (aRd g r) k FP.dconst0) (aRz g r) k (if r / 2 = 8 then 0 else 1)
theorem SK.cMk {g : GE} {w : GW} (h : SK g w) (r : Nat) : ∀ k, SK g (cMk g w r k)
  | 0 => h
  | k + 1 => ((SK.cMk h r k).setD _ _ _).setA _ _ _
set_option maxHeartbeats 4000000 in
set_option maxRecDepth 20000 in
theorem c_make_loop {g : GE} {d : Nat} {w : GW} {Q : Option Value → GW → Prop} {r n : Nat} (hS : SK g w) (hr : r < 18) (hn : n ≤ 16) (k : Q (some (.int 0)) (setI (cMk g w r n) 387 (aRow g r) (nI n))) : ∀ m i : Nat, i + m = n → gF g d mX6_make 17 [(2, .int (nI i)), (0, .ref (aRow g r)), (1, .int (nI n))] [] (cMk g w r i) Q
  | 0, i, hi => by
    have e : i = n := by omega
    subst e
    obtain ⟨o1, o2, o3, l2, l3, r2, r3, i1, p1⟩ := (hS.cMk r i).row hr
    refine g_iload_n dX6_make_17 rfl ?_
    refine g_iload_n dX6_make_18 rfl ?_
    refine g_icmp_ge 55 dX6_make_19 (by decide) (fun _ => ?_) (fun q => absurd (nI_le (Nat.le_refl _) (by omega)) q)
    refine g_aload_n dX6_make_55 rfl ?_
    refine g_iload_n dX6_make_56 rfl ?_
    refine g_putI 6 3 387 dX6_make_57 fX6_21 rfl rfl (by assumption) ?_
    refine g_iconstV (v := 0) dX6_make_60 (by decide) ?_
    refine g_iret dX6_make_61 rfl ?_
    exact k
  | m + 1, i, hi => by
    obtain ⟨o1, o2, o3, l2, l3, r2, r3, i1, p1⟩ := (hS.cMk r i).row hr
    have hj2 : i < gL (cMk g w r i) (aRd g r) := by rw [l2]; omega
    have hj3 : i < gL (cMk g w r i) (aRz g r) := by rw [l3]; omega
    have hii : nI i = nI i := rfl
    have e8 : gI (cMk g w r i) 384 (aRow g r) = 8 ↔ r / 2 = 8 := by rw [i1]; exact nI_eq (b := 8) (by omega) (by decide)
    refine g_iload_n dX6_make_17 rfl ?_
    refine g_iload_n dX6_make_18 rfl ?_
    refine g_icmp_ge 55 dX6_make_19 (by decide) (fun q => absurd q (nI_ge (by omega) (by omega))) (fun _ => ?_)
    refine g_aload_n dX6_make_22 rfl ?_
    refine g_getR 6 1 385 dX6_make_23 fX6_13 rfl rfl (by assumption) (by assumption) ?_
    refine g_iload_n dX6_make_26 rfl ?_
    refine g_dconst0 dX6_make_27 ?_
    refine g_dast dX6_make_28 o2 rfl hj2 ?_
    refine g_aload_n dX6_make_29 rfl ?_
    refine g_getR 6 2 386 dX6_make_30 fX6_17 rfl rfl (by assumption) (by assumption) ?_
    refine g_iload_n dX6_make_33 rfl ?_
    refine g_aload_n dX6_make_34 rfl ?_
    refine g_getI 6 0 384 dX6_make_35 fX6_7 rfl rfl (by assumption) ?_
    refine g_bipushV (v := 8) dX6_make_38 (by decide) ?_
    refine g_icmp_eq 47 dX6_make_40 (by decide) (fun c1 => ?_) (fun c1 => ?_)
    · refine g_iconstV (v := 0) dX6_make_47 (by decide) ?_
      refine g_zast dX6_make_48 o3 rfl hj3 rfl ?_
      refine g_iinc (lz := [(2, .int (nI (i + 1))), (0, .ref (aRow g r)), (1, .int (nI n))]) dX6_make_49 rfl (by decide) (by rw [show nI i + Int32.ofInt 1 = nI (i + 1) from nI_1 i]; rfl) ?_
      refine g_goto 17 dX6_make_52 (by decide) ?_
      have ih := c_make_loop (d := d) hS hr hn k m (i + 1) (by omega)
      replace c1 : r / 2 = 8 := e8.mp c1
      unfold cMk at ih
      rw [if_pos c1] at ih
      exact ih
    · refine g_iconstV (v := 1) dX6_make_43 (by decide) ?_
      refine g_goto 48 dX6_make_44 (by decide) ?_
      refine g_zast dX6_make_48 o3 rfl hj3 rfl ?_
      refine g_iinc (lz := [(2, .int (nI (i + 1))), (0, .ref (aRow g r)), (1, .int (nI n))]) dX6_make_49 rfl (by decide) (by rw [show nI i + Int32.ofInt 1 = nI (i + 1) from nI_1 i]; rfl) ?_
      refine g_goto 17 dX6_make_52 (by decide) ?_
      have ih := c_make_loop (d := d) hS hr hn k m (i + 1) (by omega)
      replace c1 : ¬ r / 2 = 8 := fun z => c1 (e8.mpr z)
      unfold cMk at ih
      rw [if_neg c1] at ih
      exact ih
set_option maxHeartbeats 4000000 in
set_option maxRecDepth 20000 in
theorem c_makeBig {g : GE} {d : Nat} {w : GW} {Q : Option Value → GW → Prop} {r : Nat} {z : Int32} (hz : 16 < z) (k : Q (some (.int 8)) w) : gM g d mX6_make [.ref (aRow g r), .int z] w Q := by
  refine gM.of (by decide) (Nat.le_of_ble_eq_true rfl) ?_
  refine g_iload_n dX6_make_0 rfl ?_
  refine g_bipushV (v := 16) dX6_make_1 (by decide) ?_
  refine g_icmp_le 9 dX6_make_3 (by decide) (fun q => absurd q (by rw [Int32.not_le]; exact hz)) (fun _ => ?_)
  refine g_bipushV (v := 8) dX6_make_6 (by decide) ?_
  refine g_iret dX6_make_8 rfl ?_
  exact k
set_option maxHeartbeats 4000000 in
set_option maxRecDepth 20000 in
theorem c_makeNeg {g : GE} {d : Nat} {w : GW} {Q : Option Value → GW → Prop} {r : Nat} {z : Int32} (hz : z < 0) (k : Q (some (.int 5)) w) : gM g d mX6_make [.ref (aRow g r), .int z] w Q := by
  refine gM.of (by decide) (Nat.le_of_ble_eq_true rfl) ?_
  refine g_iload_n dX6_make_0 rfl ?_
  refine g_bipushV (v := 16) dX6_make_1 (by decide) ?_
  refine g_icmp_le 9 dX6_make_3 (by decide) (fun _ => ?_) (fun q => absurd (Int32.le_of_lt (Int32.lt_of_lt_of_le hz (by decide))) q)
  refine g_iload_n dX6_make_9 rfl ?_
  refine g_if_ge 15 dX6_make_10 (by decide) (fun q => absurd q (by rw [Int32.not_le]; exact hz)) (fun _ => ?_)
  refine g_iconstV (v := 5) dX6_make_13 (by decide) ?_
  refine g_iret dX6_make_14 rfl ?_
  exact k
set_option maxHeartbeats 4000000 in
set_option maxRecDepth 20000 in
theorem c_makeOn {g : GE} {d : Nat} {w : GW} {Q : Option Value → GW → Prop} {r n : Nat} (hS : SK g w) (hr : r < 18) (hn : n ≤ 16) (k : Q (some (.int 0)) (setI (cMk g w r n) 387 (aRow g r) (nI n))) : gM g d mX6_make [.ref (aRow g r), .int (nI n)] w Q := by
  refine gM.of (by decide) (Nat.le_of_ble_eq_true rfl) ?_
  refine g_iload_n dX6_make_0 rfl ?_
  refine g_bipushV (v := 16) dX6_make_1 (by decide) ?_
  refine g_icmp_le 9 dX6_make_3 (by decide) (fun _ => ?_) (fun q => absurd (nI_le (b := 16) hn (by decide)) q)
  refine g_iload_n dX6_make_9 rfl ?_
  refine g_if_ge 15 dX6_make_10 (by decide) (fun _ => ?_) (fun q => absurd (nI_pos' (by omega)) q)
  refine g_iconstV (v := 0) dX6_make_15 (by decide) ?_
  refine g_istore_n dX6_make_16 (by decide) rfl ?_
  exact c_make_loop hS hr hn k n 0 (by omega)
set_option maxHeartbeats 4000000 in
set_option maxRecDepth 20000 in
theorem c_wwMake {g : GE} {d : Nat} {w : GW} {Q : Option Value → GW → Prop} (hd : 5 ≤ d) {q r b : Nat} (hS : SK g w) (hq : gOb g w q 7) (hr : r < 18) (ha : gI w 449 q = nI r) (hb : gI w 450 q = nI b) (hb2 : b < 8) (hw : gI w 448 q = 13) {v : Int32} {w1 : GW} (hM : Ans g (d - 1) mX6_make [.ref (aRow g r), .int (FP.d2i (gD w (eB g + 67) b))] w (some (.int v)) w1) (k : Q (some (.int v)) w1) : gM g d mX0_workWithRow [.ref (eB g + 1), .ref q] w Q := by
  refine gM.of (by decide) (Nat.le_of_ble_eq_true rfl) ?_
  have o1 : gOb g w (eB g + 1) 0 := hS.ob 1 rfl
  have o66 : gOb g w (eB g + 66) 2 := hS.ob 66 rfl
  have r2 : gR w 2 (eB g + 1) = some (eB g + 66) := hS.rf 2 1 66 (by decide)
  have o68 : gOb g w (eB g + 68) 4 := hS.ob 68 rfl
  have r3 : gR w 3 (eB g + 1) = some (eB g + 68) := hS.rf 3 1 68 (by decide)
  obtain ⟨oR, -⟩ := hS.row hr
  refine g_aload_n dX0_workWithRow_0 rfl ?_
  refine g_aload_n dX0_workWithRow_1 rfl ?_
  refine g_getI 7 1 449 dX0_workWithRow_2 fX0_122 rfl rfl (by assumption) ?_
  refine g_callV (d1 := d - 1) (As := [_]) 0 dX0_workWithRow_5 vX0_189 (by omega) (by assumption) rfl rfl (Nat.le_of_ble_eq_true rfl) ?_
  refine c_rowAt hS (fun z => absurd z (by rw [ha]; exact fun y => y.elim (nI_pos (by omega)) (nI_ge hr (by decide)))) (fun j0 hj0 hij => ?_)
  obtain rfl : j0 = r := (nI_eq (by omega) (by omega)).mp (hij.symm.trans ha)
  refine g_astore_n dX0_workWithRow_8 (by decide) rfl ?_
  refine g_aload_n dX0_workWithRow_9 rfl ?_
  refine g_ifnonnull 15 dX0_workWithRow_10 (by decide) ?_
  refine g_aload_n dX0_workWithRow_15 rfl ?_
  refine g_getR 0 2 2 dX0_workWithRow_16 fX0_32 rfl rfl (by assumption) (by assumption) ?_
  refine g_aload_n dX0_workWithRow_19 rfl ?_
  refine g_getI 7 2 450 dX0_workWithRow_20 fX0_175 rfl rfl (by assumption) ?_
  refine g_callV (d1 := d - 1) (As := [_]) 2 dX0_workWithRow_23 vX0_193 (by omega) (by assumption) rfl rfl (Nat.le_of_ble_eq_true rfl) ?_
  refine c_wholeAt (by omega) hS ?_
  rw [hb, cAt_in hb2]
  refine g_istore_n dX0_workWithRow_26 (by decide) rfl ?_
  refine g_aload_n dX0_workWithRow_27 rfl ?_
  refine g_getI 7 0 448 dX0_workWithRow_28 fX0_99 rfl rfl (by assumption) ?_
  refine g_tableIn (off := 33) 64 dX0_workWithRow_31 (by rw [hw]; decide) (by rw [hw]; decide) (by rw [hw]; rfl) (by decide) ?_
  refine g_aload_n dX0_workWithRow_64 rfl ?_
  refine g_iload_n dX0_workWithRow_65 rfl ?_
  refine g_callV (d1 := d - 1) (As := [_]) 6 dX0_workWithRow_66 vX0_197 (by omega) (by assumption) rfl rfl (Nat.le_of_ble_eq_true rfl) ?_
  refine hM _ ?_
  refine g_iret dX0_workWithRow_69 rfl ?_
  exact k
set_option maxHeartbeats 4000000 in
set_option maxRecDepth 20000 in
theorem c_wwDrop {g : GE} {d : Nat} {w : GW} {Q : Option Value → GW → Prop} (hd : 5 ≤ d) {q r : Nat} (hS : SK g w) (hq : gOb g w q 7) (hr : r < 18) (ha : gI w 449 q = nI r) (hw : gI w 448 q = 14) (k : Q (some (.int 0)) (setI w 387 (aRow g r) (-1))) : gM g d mX0_workWithRow [.ref (eB g + 1), .ref q] w Q := by
  refine gM.of (by decide) (Nat.le_of_ble_eq_true rfl) ?_
  have o1 : gOb g w (eB g + 1) 0 := hS.ob 1 rfl
  have o66 : gOb g w (eB g + 66) 2 := hS.ob 66 rfl
  have r2 : gR w 2 (eB g + 1) = some (eB g + 66) := hS.rf 2 1 66 (by decide)
  have o68 : gOb g w (eB g + 68) 4 := hS.ob 68 rfl
  have r3 : gR w 3 (eB g + 1) = some (eB g + 68) := hS.rf 3 1 68 (by decide)
  obtain ⟨oR, -⟩ := hS.row hr
  refine g_aload_n dX0_workWithRow_0 rfl ?_
  refine g_aload_n dX0_workWithRow_1 rfl ?_
  refine g_getI 7 1 449 dX0_workWithRow_2 fX0_122 rfl rfl (by assumption) ?_
  refine g_callV (d1 := d - 1) (As := [_]) 0 dX0_workWithRow_5 vX0_189 (by omega) (by assumption) rfl rfl (Nat.le_of_ble_eq_true rfl) ?_
  refine c_rowAt hS (fun z => absurd z (by rw [ha]; exact fun y => y.elim (nI_pos (by omega)) (nI_ge hr (by decide)))) (fun j0 hj0 hij => ?_)
  obtain rfl : j0 = r := (nI_eq (by omega) (by omega)).mp (hij.symm.trans ha)
  refine g_astore_n dX0_workWithRow_8 (by decide) rfl ?_
  refine g_aload_n dX0_workWithRow_9 rfl ?_
  refine g_ifnonnull 15 dX0_workWithRow_10 (by decide) ?_
  refine g_aload_n dX0_workWithRow_15 rfl ?_
  refine g_getR 0 2 2 dX0_workWithRow_16 fX0_32 rfl rfl (by assumption) (by assumption) ?_
  refine g_aload_n dX0_workWithRow_19 rfl ?_
  refine g_getI 7 2 450 dX0_workWithRow_20 fX0_175 rfl rfl (by assumption) ?_
  refine g_callV (d1 := d - 1) (As := [_]) 2 dX0_workWithRow_23 vX0_193 (by omega) (by assumption) rfl rfl (Nat.le_of_ble_eq_true rfl) ?_
  refine c_wholeAt (by omega) hS ?_
  refine g_istore_n dX0_workWithRow_26 (by decide) rfl ?_
  refine g_aload_n dX0_workWithRow_27 rfl ?_
  refine g_getI 7 0 448 dX0_workWithRow_28 fX0_99 rfl rfl (by assumption) ?_
  refine g_tableIn (off := 39) 70 dX0_workWithRow_31 (by rw [hw]; decide) (by rw [hw]; decide) (by rw [hw]; rfl) (by decide) ?_
  refine g_aload_n dX0_workWithRow_70 rfl ?_
  refine g_callV (d1 := d - 1) (As := []) 6 dX0_workWithRow_71 vX0_200 (by omega) (by assumption) rfl rfl (Nat.le_of_ble_eq_true rfl) ?_
  refine c_drop hS hr ?_
  refine g_iconstV (v := 0) dX0_workWithRow_74 (by decide) ?_
  refine g_iret dX0_workWithRow_75 rfl ?_
  exact k
set_option maxHeartbeats 4000000 in
set_option maxRecDepth 20000 in
theorem c_wwCountF {g : GE} {d : Nat} {w : GW} {Q : Option Value → GW → Prop} (hd : 5 ≤ d) {q r b : Nat} (hS : SK g w) (hq : gOb g w q 7) (hr : r < 18) (ha : gI w 449 q = nI r) (hb : gI w 450 q = nI b) (hb2 : b < 8) (hw : gI w 448 q = 15) (h0 : gI w 387 (aRow g r) < 0) (k : Q (some (.int 3)) w) : gM g d mX0_workWithRow [.ref (eB g + 1), .ref q] w Q := by
  refine gM.of (by decide) (Nat.le_of_ble_eq_true rfl) ?_
  have o1 : gOb g w (eB g + 1) 0 := hS.ob 1 rfl
  have o66 : gOb g w (eB g + 66) 2 := hS.ob 66 rfl
  have r2 : gR w 2 (eB g + 1) = some (eB g + 66) := hS.rf 2 1 66 (by decide)
  have o68 : gOb g w (eB g + 68) 4 := hS.ob 68 rfl
  have r3 : gR w 3 (eB g + 1) = some (eB g + 68) := hS.rf 3 1 68 (by decide)
  obtain ⟨oR, -⟩ := hS.row hr
  refine g_aload_n dX0_workWithRow_0 rfl ?_
  refine g_aload_n dX0_workWithRow_1 rfl ?_
  refine g_getI 7 1 449 dX0_workWithRow_2 fX0_122 rfl rfl (by assumption) ?_
  refine g_callV (d1 := d - 1) (As := [_]) 0 dX0_workWithRow_5 vX0_189 (by omega) (by assumption) rfl rfl (Nat.le_of_ble_eq_true rfl) ?_
  refine c_rowAt hS (fun z => absurd z (by rw [ha]; exact fun y => y.elim (nI_pos (by omega)) (nI_ge hr (by decide)))) (fun j0 hj0 hij => ?_)
  obtain rfl : j0 = r := (nI_eq (by omega) (by omega)).mp (hij.symm.trans ha)
  refine g_astore_n dX0_workWithRow_8 (by decide) rfl ?_
  refine g_aload_n dX0_workWithRow_9 rfl ?_
  refine g_ifnonnull 15 dX0_workWithRow_10 (by decide) ?_
  refine g_aload_n dX0_workWithRow_15 rfl ?_
  refine g_getR 0 2 2 dX0_workWithRow_16 fX0_32 rfl rfl (by assumption) (by assumption) ?_
  refine g_aload_n dX0_workWithRow_19 rfl ?_
  refine g_getI 7 2 450 dX0_workWithRow_20 fX0_175 rfl rfl (by assumption) ?_
  refine g_callV (d1 := d - 1) (As := [_]) 2 dX0_workWithRow_23 vX0_193 (by omega) (by assumption) rfl rfl (Nat.le_of_ble_eq_true rfl) ?_
  refine c_wholeAt (by omega) hS ?_
  rw [hb, cAt_in hb2]
  refine g_istore_n dX0_workWithRow_26 (by decide) rfl ?_
  refine g_aload_n dX0_workWithRow_27 rfl ?_
  refine g_getI 7 0 448 dX0_workWithRow_28 fX0_99 rfl rfl (by assumption) ?_
  refine g_tableIn (off := 45) 76 dX0_workWithRow_31 (by rw [hw]; decide) (by rw [hw]; decide) (by rw [hw]; rfl) (by decide) ?_
  refine g_aload_n dX0_workWithRow_76 rfl ?_
  refine g_getI 6 3 387 dX0_workWithRow_77 fX0_203 rfl rfl (by assumption) ?_
  refine g_if_ge 87 dX0_workWithRow_80 (by decide) (fun q => absurd q (by rw [Int32.not_le]; exact h0)) (fun _ => ?_)
  refine g_iconstV (v := 3) dX0_workWithRow_83 (by decide) ?_
  refine g_goto 103 dX0_workWithRow_84 (by decide) ?_
  refine g_iret dX0_workWithRow_103 rfl ?_
  exact k
set_option maxHeartbeats 4000000 in
set_option maxRecDepth 20000 in
theorem c_wwCount {g : GE} {d : Nat} {w : GW} {Q : Option Value → GW → Prop} (hd : 5 ≤ d) {q r b : Nat} (hS : SK g w) (hq : gOb g w q 7) (hr : r < 18) (ha : gI w 449 q = nI r) (hb : gI w 450 q = nI b) (hb2 : b < 8) (hw : gI w 448 q = 15) (h0 : 0 ≤ gI w 387 (aRow g r)) (hbe : ¬ fBeyond (FP.i2d (gI w 387 (aRow g r)))) (k : Q (some (.int 0)) (setD w (eB g + 67) b (FP.i2d (gI w 387 (aRow g r))))) : gM g d mX0_workWithRow [.ref (eB g + 1), .ref q] w Q := by
  refine gM.of (by decide) (Nat.le_of_ble_eq_true rfl) ?_
  have o1 : gOb g w (eB g + 1) 0 := hS.ob 1 rfl
  have o66 : gOb g w (eB g + 66) 2 := hS.ob 66 rfl
  have r2 : gR w 2 (eB g + 1) = some (eB g + 66) := hS.rf 2 1 66 (by decide)
  have o68 : gOb g w (eB g + 68) 4 := hS.ob 68 rfl
  have r3 : gR w 3 (eB g + 1) = some (eB g + 68) := hS.rf 3 1 68 (by decide)
  obtain ⟨oR, -⟩ := hS.row hr
  refine g_aload_n dX0_workWithRow_0 rfl ?_
  refine g_aload_n dX0_workWithRow_1 rfl ?_
  refine g_getI 7 1 449 dX0_workWithRow_2 fX0_122 rfl rfl (by assumption) ?_
  refine g_callV (d1 := d - 1) (As := [_]) 0 dX0_workWithRow_5 vX0_189 (by omega) (by assumption) rfl rfl (Nat.le_of_ble_eq_true rfl) ?_
  refine c_rowAt hS (fun z => absurd z (by rw [ha]; exact fun y => y.elim (nI_pos (by omega)) (nI_ge hr (by decide)))) (fun j0 hj0 hij => ?_)
  obtain rfl : j0 = r := (nI_eq (by omega) (by omega)).mp (hij.symm.trans ha)
  refine g_astore_n dX0_workWithRow_8 (by decide) rfl ?_
  refine g_aload_n dX0_workWithRow_9 rfl ?_
  refine g_ifnonnull 15 dX0_workWithRow_10 (by decide) ?_
  refine g_aload_n dX0_workWithRow_15 rfl ?_
  refine g_getR 0 2 2 dX0_workWithRow_16 fX0_32 rfl rfl (by assumption) (by assumption) ?_
  refine g_aload_n dX0_workWithRow_19 rfl ?_
  refine g_getI 7 2 450 dX0_workWithRow_20 fX0_175 rfl rfl (by assumption) ?_
  refine g_callV (d1 := d - 1) (As := [_]) 2 dX0_workWithRow_23 vX0_193 (by omega) (by assumption) rfl rfl (Nat.le_of_ble_eq_true rfl) ?_
  refine c_wholeAt (by omega) hS ?_
  rw [hb, cAt_in hb2]
  refine g_istore_n dX0_workWithRow_26 (by decide) rfl ?_
  refine g_aload_n dX0_workWithRow_27 rfl ?_
  refine g_getI 7 0 448 dX0_workWithRow_28 fX0_99 rfl rfl (by assumption) ?_
  refine g_tableIn (off := 45) 76 dX0_workWithRow_31 (by rw [hw]; decide) (by rw [hw]; decide) (by rw [hw]; rfl) (by decide) ?_
  refine g_aload_n dX0_workWithRow_76 rfl ?_
  refine g_getI 6 3 387 dX0_workWithRow_77 fX0_203 rfl rfl (by assumption) ?_
  refine g_if_ge 87 dX0_workWithRow_80 (by decide) (fun _ => ?_) (fun q => absurd (h0) q)
  refine g_aload_n dX0_workWithRow_87 rfl ?_
  refine g_getR 0 2 2 dX0_workWithRow_88 fX0_32 rfl rfl (by assumption) (by assumption) ?_
  refine g_aload_n dX0_workWithRow_91 rfl ?_
  refine g_getI 7 2 450 dX0_workWithRow_92 fX0_175 rfl rfl hq ?_
  rw [hb]
  refine g_aload_n dX0_workWithRow_95 rfl ?_
  refine g_getI 6 3 387 dX0_workWithRow_96 fX0_203 rfl rfl (by assumption) ?_
  refine g_i2d dX0_workWithRow_99 ?_
  refine g_callV (d1 := d - 1) (As := [_, _]) 2 dX0_workWithRow_100 vX0_206 (by omega) (by assumption) rfl rfl (Nat.le_of_ble_eq_true rfl) ?_
  refine c_turn hS hb2 (fun z => absurd z hbe) (fun _ => ?_)
  refine g_iret dX0_workWithRow_103 rfl ?_
  exact k
set_option maxHeartbeats 4000000 in
set_option maxRecDepth 20000 in
theorem c_wwGetF {g : GE} {d : Nat} {w : GW} {Q : Option Value → GW → Prop} (hd : 5 ≤ d) {q r b : Nat} (hS : SK g w) (hq : gOb g w q 7) (hr : r < 18) (ha : gI w 449 q = nI r) (hb : gI w 450 q = nI b) (hb2 : b < 8) (hw : gI w 448 q = 16) (hf : ¬ fUse g w r (FP.d2i (gD w (eB g + 67) b)) = 0) {c : Nat} (hc : gI w 451 q = nI c) (k : Q (some (.int (fUse g w r (FP.d2i (gD w (eB g + 67) b))))) w) : gM g d mX0_workWithRow [.ref (eB g + 1), .ref q] w Q := by
  refine gM.of (by decide) (Nat.le_of_ble_eq_true rfl) ?_
  have o1 : gOb g w (eB g + 1) 0 := hS.ob 1 rfl
  have o66 : gOb g w (eB g + 66) 2 := hS.ob 66 rfl
  have r2 : gR w 2 (eB g + 1) = some (eB g + 66) := hS.rf 2 1 66 (by decide)
  have o68 : gOb g w (eB g + 68) 4 := hS.ob 68 rfl
  have r3 : gR w 3 (eB g + 1) = some (eB g + 68) := hS.rf 3 1 68 (by decide)
  obtain ⟨oR, -⟩ := hS.row hr
  refine g_aload_n dX0_workWithRow_0 rfl ?_
  refine g_aload_n dX0_workWithRow_1 rfl ?_
  refine g_getI 7 1 449 dX0_workWithRow_2 fX0_122 rfl rfl (by assumption) ?_
  refine g_callV (d1 := d - 1) (As := [_]) 0 dX0_workWithRow_5 vX0_189 (by omega) (by assumption) rfl rfl (Nat.le_of_ble_eq_true rfl) ?_
  refine c_rowAt hS (fun z => absurd z (by rw [ha]; exact fun y => y.elim (nI_pos (by omega)) (nI_ge hr (by decide)))) (fun j0 hj0 hij => ?_)
  obtain rfl : j0 = r := (nI_eq (by omega) (by omega)).mp (hij.symm.trans ha)
  refine g_astore_n dX0_workWithRow_8 (by decide) rfl ?_
  refine g_aload_n dX0_workWithRow_9 rfl ?_
  refine g_ifnonnull 15 dX0_workWithRow_10 (by decide) ?_
  refine g_aload_n dX0_workWithRow_15 rfl ?_
  refine g_getR 0 2 2 dX0_workWithRow_16 fX0_32 rfl rfl (by assumption) (by assumption) ?_
  refine g_aload_n dX0_workWithRow_19 rfl ?_
  refine g_getI 7 2 450 dX0_workWithRow_20 fX0_175 rfl rfl (by assumption) ?_
  refine g_callV (d1 := d - 1) (As := [_]) 2 dX0_workWithRow_23 vX0_193 (by omega) (by assumption) rfl rfl (Nat.le_of_ble_eq_true rfl) ?_
  refine c_wholeAt (by omega) hS ?_
  rw [hb, cAt_in hb2]
  refine g_istore_n dX0_workWithRow_26 (by decide) rfl ?_
  refine g_aload_n dX0_workWithRow_27 rfl ?_
  refine g_getI 7 0 448 dX0_workWithRow_28 fX0_99 rfl rfl (by assumption) ?_
  refine g_tableIn (off := 73) 104 dX0_workWithRow_31 (by rw [hw]; decide) (by rw [hw]; decide) (by rw [hw]; rfl) (by decide) ?_
  refine g_aload_n dX0_workWithRow_104 rfl ?_
  refine g_aload_n dX0_workWithRow_105 rfl ?_
  refine g_getI 7 3 451 dX0_workWithRow_106 fX0_172 rfl rfl hq ?_
  rw [hc]
  refine g_aload_n dX0_workWithRow_109 rfl ?_
  refine g_iload_n dX0_workWithRow_110 rfl ?_
  refine g_callV (d1 := d - 1) (As := [_, _, _]) 0 dX0_workWithRow_111 vX0_210 (by omega) (by assumption) rfl rfl (Nat.le_of_ble_eq_true rfl) ?_
  refine c_getIntoF (c := c) (by omega) hS hr hf ?_
  refine g_iret dX0_workWithRow_114 rfl ?_
  exact k
set_option maxHeartbeats 4000000 in
set_option maxRecDepth 20000 in
theorem c_wwGet {g : GE} {d : Nat} {w : GW} {Q : Option Value → GW → Prop} (hd : 5 ≤ d) {q r b : Nat} (hS : SK g w) (hq : gOb g w q 7) (hr : r < 18) (ha : gI w 449 q = nI r) (hb : gI w 450 q = nI b) (hb2 : b < 8) (hw : gI w 448 q = 16) {c j : Nat} (hc : gI w 451 q = nI c) (hc2 : c < 8) (hf : fUse g w r (FP.d2i (gD w (eB g + 67) b)) = 0) (hj : j < 16) (hi : (FP.d2i (gD w (eB g + 67) b)) = nI j) (hbe : ¬ fBeyond (gD w (aRd g r) j)) (k : Q (some (.int 0)) (setD w (eB g + 67) c (gD w (aRd g r) j))) : gM g d mX0_workWithRow [.ref (eB g + 1), .ref q] w Q := by
  refine gM.of (by decide) (Nat.le_of_ble_eq_true rfl) ?_
  have o1 : gOb g w (eB g + 1) 0 := hS.ob 1 rfl
  have o66 : gOb g w (eB g + 66) 2 := hS.ob 66 rfl
  have r2 : gR w 2 (eB g + 1) = some (eB g + 66) := hS.rf 2 1 66 (by decide)
  have o68 : gOb g w (eB g + 68) 4 := hS.ob 68 rfl
  have r3 : gR w 3 (eB g + 1) = some (eB g + 68) := hS.rf 3 1 68 (by decide)
  obtain ⟨oR, -⟩ := hS.row hr
  refine g_aload_n dX0_workWithRow_0 rfl ?_
  refine g_aload_n dX0_workWithRow_1 rfl ?_
  refine g_getI 7 1 449 dX0_workWithRow_2 fX0_122 rfl rfl (by assumption) ?_
  refine g_callV (d1 := d - 1) (As := [_]) 0 dX0_workWithRow_5 vX0_189 (by omega) (by assumption) rfl rfl (Nat.le_of_ble_eq_true rfl) ?_
  refine c_rowAt hS (fun z => absurd z (by rw [ha]; exact fun y => y.elim (nI_pos (by omega)) (nI_ge hr (by decide)))) (fun j0 hj0 hij => ?_)
  obtain rfl : j0 = r := (nI_eq (by omega) (by omega)).mp (hij.symm.trans ha)
  refine g_astore_n dX0_workWithRow_8 (by decide) rfl ?_
  refine g_aload_n dX0_workWithRow_9 rfl ?_
  refine g_ifnonnull 15 dX0_workWithRow_10 (by decide) ?_
  refine g_aload_n dX0_workWithRow_15 rfl ?_
  refine g_getR 0 2 2 dX0_workWithRow_16 fX0_32 rfl rfl (by assumption) (by assumption) ?_
  refine g_aload_n dX0_workWithRow_19 rfl ?_
  refine g_getI 7 2 450 dX0_workWithRow_20 fX0_175 rfl rfl (by assumption) ?_
  refine g_callV (d1 := d - 1) (As := [_]) 2 dX0_workWithRow_23 vX0_193 (by omega) (by assumption) rfl rfl (Nat.le_of_ble_eq_true rfl) ?_
  refine c_wholeAt (by omega) hS ?_
  rw [hb, cAt_in hb2]
  refine g_istore_n dX0_workWithRow_26 (by decide) rfl ?_
  refine g_aload_n dX0_workWithRow_27 rfl ?_
  refine g_getI 7 0 448 dX0_workWithRow_28 fX0_99 rfl rfl (by assumption) ?_
  refine g_tableIn (off := 73) 104 dX0_workWithRow_31 (by rw [hw]; decide) (by rw [hw]; decide) (by rw [hw]; rfl) (by decide) ?_
  refine g_aload_n dX0_workWithRow_104 rfl ?_
  refine g_aload_n dX0_workWithRow_105 rfl ?_
  refine g_getI 7 3 451 dX0_workWithRow_106 fX0_172 rfl rfl hq ?_
  rw [hc]
  refine g_aload_n dX0_workWithRow_109 rfl ?_
  refine g_iload_n dX0_workWithRow_110 rfl ?_
  refine g_callV (d1 := d - 1) (As := [_, _, _]) 0 dX0_workWithRow_111 vX0_210 (by omega) (by assumption) rfl rfl (Nat.le_of_ble_eq_true rfl) ?_
  refine c_getInto (by omega) hS hr hc2 hf hj hi hbe ?_
  refine g_iret dX0_workWithRow_114 rfl ?_
  exact k
set_option maxHeartbeats 4000000 in
set_option maxRecDepth 20000 in
theorem c_wwPutF {g : GE} {d : Nat} {w : GW} {Q : Option Value → GW → Prop} (hd : 5 ≤ d) {q r b : Nat} (hS : SK g w) (hq : gOb g w q 7) (hr : r < 18) (ha : gI w 449 q = nI r) (hb : gI w 450 q = nI b) (hb2 : b < 8) (hw : gI w 448 q = 17) {c : Nat} (hc : gI w 451 q = nI c) (hc2 : c < 8) (hf1 : vf_n32 (FP.d2f (gD w (eB g + 67) c))) (hf2 : vf_n64 (FP.f2d (FP.d2f (gD w (eB g + 67) c)))) (hf : ¬ fUse g w r (FP.d2i (gD w (eB g + 67) b)) = 0) (k : Q (some (.int (fUse g w r (FP.d2i (gD w (eB g + 67) b))))) w) : gM g d mX0_workWithRow [.ref (eB g + 1), .ref q] w Q := by
  refine gM.of (by decide) (Nat.le_of_ble_eq_true rfl) ?_
  have o1 : gOb g w (eB g + 1) 0 := hS.ob 1 rfl
  have o66 : gOb g w (eB g + 66) 2 := hS.ob 66 rfl
  have r2 : gR w 2 (eB g + 1) = some (eB g + 66) := hS.rf 2 1 66 (by decide)
  have o68 : gOb g w (eB g + 68) 4 := hS.ob 68 rfl
  have r3 : gR w 3 (eB g + 1) = some (eB g + 68) := hS.rf 3 1 68 (by decide)
  obtain ⟨oR, -⟩ := hS.row hr
  refine g_aload_n dX0_workWithRow_0 rfl ?_
  refine g_aload_n dX0_workWithRow_1 rfl ?_
  refine g_getI 7 1 449 dX0_workWithRow_2 fX0_122 rfl rfl (by assumption) ?_
  refine g_callV (d1 := d - 1) (As := [_]) 0 dX0_workWithRow_5 vX0_189 (by omega) (by assumption) rfl rfl (Nat.le_of_ble_eq_true rfl) ?_
  refine c_rowAt hS (fun z => absurd z (by rw [ha]; exact fun y => y.elim (nI_pos (by omega)) (nI_ge hr (by decide)))) (fun j0 hj0 hij => ?_)
  obtain rfl : j0 = r := (nI_eq (by omega) (by omega)).mp (hij.symm.trans ha)
  refine g_astore_n dX0_workWithRow_8 (by decide) rfl ?_
  refine g_aload_n dX0_workWithRow_9 rfl ?_
  refine g_ifnonnull 15 dX0_workWithRow_10 (by decide) ?_
  refine g_aload_n dX0_workWithRow_15 rfl ?_
  refine g_getR 0 2 2 dX0_workWithRow_16 fX0_32 rfl rfl (by assumption) (by assumption) ?_
  refine g_aload_n dX0_workWithRow_19 rfl ?_
  refine g_getI 7 2 450 dX0_workWithRow_20 fX0_175 rfl rfl (by assumption) ?_
  refine g_callV (d1 := d - 1) (As := [_]) 2 dX0_workWithRow_23 vX0_193 (by omega) (by assumption) rfl rfl (Nat.le_of_ble_eq_true rfl) ?_
  refine c_wholeAt (by omega) hS ?_
  rw [hb, cAt_in hb2]
  refine g_istore_n dX0_workWithRow_26 (by decide) rfl ?_
  refine g_aload_n dX0_workWithRow_27 rfl ?_
  refine g_getI 7 0 448 dX0_workWithRow_28 fX0_99 rfl rfl (by assumption) ?_
  refine g_tableIn (off := 84) 115 dX0_workWithRow_31 (by rw [hw]; decide) (by rw [hw]; decide) (by rw [hw]; rfl) (by decide) ?_
  refine g_aload_n dX0_workWithRow_115 rfl ?_
  refine g_iload_n dX0_workWithRow_116 rfl ?_
  refine g_aload_n dX0_workWithRow_117 rfl ?_
  refine g_getR 0 2 2 dX0_workWithRow_118 fX0_32 rfl rfl (by assumption) (by assumption) ?_
  refine g_aload_n dX0_workWithRow_121 rfl ?_
  refine g_getI 7 3 451 dX0_workWithRow_122 fX0_172 rfl rfl (by assumption) ?_
  refine g_callV (d1 := d - 1) (As := [_]) 2 dX0_workWithRow_125 vX0_168 (by omega) (by assumption) rfl rfl (Nat.le_of_ble_eq_true rfl) ?_
  refine c_at hS ?_
  rw [hc, cAt_in hc2]
  refine g_callV (d1 := d - 1) (As := [_, _]) 6 dX0_workWithRow_128 vX0_214 (by omega) (by assumption) rfl rfl (Nat.le_of_ble_eq_true rfl) ?_
  refine c_put (by omega) hS hr hf1 hf2 (fun _ => ?_) (fun _ _ _ z => absurd z hf)
  refine g_iret dX0_workWithRow_131 rfl ?_
  exact k
set_option maxHeartbeats 4000000 in
set_option maxRecDepth 20000 in
theorem c_wwPut {g : GE} {d : Nat} {w : GW} {Q : Option Value → GW → Prop} (hd : 5 ≤ d) {q r b : Nat} (hS : SK g w) (hq : gOb g w q 7) (hr : r < 18) (ha : gI w 449 q = nI r) (hb : gI w 450 q = nI b) (hb2 : b < 8) (hw : gI w 448 q = 17) {c j : Nat} (hc : gI w 451 q = nI c) (hc2 : c < 8) (hf1 : vf_n32 (FP.d2f (gD w (eB g + 67) c))) (hf2 : vf_n64 (FP.f2d (FP.d2f (gD w (eB g + 67) c)))) (hf : fUse g w r (FP.d2i (gD w (eB g + 67) b)) = 0) (hj : j < 16) (hi : (FP.d2i (gD w (eB g + 67) b)) = nI j) (k : Q (some (.int 0)) (setD w (aRd g r) j (fHeld (r / 2) (gD w (eB g + 67) c)))) : gM g d mX0_workWithRow [.ref (eB g + 1), .ref q] w Q := by
  refine gM.of (by decide) (Nat.le_of_ble_eq_true rfl) ?_
  have o1 : gOb g w (eB g + 1) 0 := hS.ob 1 rfl
  have o66 : gOb g w (eB g + 66) 2 := hS.ob 66 rfl
  have r2 : gR w 2 (eB g + 1) = some (eB g + 66) := hS.rf 2 1 66 (by decide)
  have o68 : gOb g w (eB g + 68) 4 := hS.ob 68 rfl
  have r3 : gR w 3 (eB g + 1) = some (eB g + 68) := hS.rf 3 1 68 (by decide)
  obtain ⟨oR, -⟩ := hS.row hr
  refine g_aload_n dX0_workWithRow_0 rfl ?_
  refine g_aload_n dX0_workWithRow_1 rfl ?_
  refine g_getI 7 1 449 dX0_workWithRow_2 fX0_122 rfl rfl (by assumption) ?_
  refine g_callV (d1 := d - 1) (As := [_]) 0 dX0_workWithRow_5 vX0_189 (by omega) (by assumption) rfl rfl (Nat.le_of_ble_eq_true rfl) ?_
  refine c_rowAt hS (fun z => absurd z (by rw [ha]; exact fun y => y.elim (nI_pos (by omega)) (nI_ge hr (by decide)))) (fun j0 hj0 hij => ?_)
  obtain rfl : j0 = r := (nI_eq (by omega) (by omega)).mp (hij.symm.trans ha)
  refine g_astore_n dX0_workWithRow_8 (by decide) rfl ?_
  refine g_aload_n dX0_workWithRow_9 rfl ?_
  refine g_ifnonnull 15 dX0_workWithRow_10 (by decide) ?_
  refine g_aload_n dX0_workWithRow_15 rfl ?_
  refine g_getR 0 2 2 dX0_workWithRow_16 fX0_32 rfl rfl (by assumption) (by assumption) ?_
  refine g_aload_n dX0_workWithRow_19 rfl ?_
  refine g_getI 7 2 450 dX0_workWithRow_20 fX0_175 rfl rfl (by assumption) ?_
  refine g_callV (d1 := d - 1) (As := [_]) 2 dX0_workWithRow_23 vX0_193 (by omega) (by assumption) rfl rfl (Nat.le_of_ble_eq_true rfl) ?_
  refine c_wholeAt (by omega) hS ?_
  rw [hb, cAt_in hb2]
  refine g_istore_n dX0_workWithRow_26 (by decide) rfl ?_
  refine g_aload_n dX0_workWithRow_27 rfl ?_
  refine g_getI 7 0 448 dX0_workWithRow_28 fX0_99 rfl rfl (by assumption) ?_
  refine g_tableIn (off := 84) 115 dX0_workWithRow_31 (by rw [hw]; decide) (by rw [hw]; decide) (by rw [hw]; rfl) (by decide) ?_
  refine g_aload_n dX0_workWithRow_115 rfl ?_
  refine g_iload_n dX0_workWithRow_116 rfl ?_
  refine g_aload_n dX0_workWithRow_117 rfl ?_
  refine g_getR 0 2 2 dX0_workWithRow_118 fX0_32 rfl rfl (by assumption) (by assumption) ?_
  refine g_aload_n dX0_workWithRow_121 rfl ?_
  refine g_getI 7 3 451 dX0_workWithRow_122 fX0_172 rfl rfl (by assumption) ?_
  refine g_callV (d1 := d - 1) (As := [_]) 2 dX0_workWithRow_125 vX0_168 (by omega) (by assumption) rfl rfl (Nat.le_of_ble_eq_true rfl) ?_
  refine c_at hS ?_
  rw [hc, cAt_in hc2]
  refine g_callV (d1 := d - 1) (As := [_, _]) 6 dX0_workWithRow_128 vX0_214 (by omega) (by assumption) rfl rfl (Nat.le_of_ble_eq_true rfl) ?_
  refine c_put (by omega) hS hr hf1 hf2 (fun z => absurd hf z) (fun j2 hj2 hi2 _ => ?_)
  obtain rfl : j2 = j := (nI_eq (by omega) (by omega)).mp (hi2.symm.trans hi)
  refine g_iret dX0_workWithRow_131 rfl ?_
  exact k
set_option maxHeartbeats 4000000 in
set_option maxRecDepth 20000 in
theorem c_wwFitF {g : GE} {d : Nat} {w : GW} {Q : Option Value → GW → Prop} (hd : 5 ≤ d) {q r b : Nat} (hS : SK g w) (hq : gOb g w q 7) (hr : r < 18) (ha : gI w 449 q = nI r) (hb : gI w 450 q = nI b) (hb2 : b < 8) (hw : gI w 448 q = 18) (hf : ¬ fFaultAt (rowPl g w r) (FP.d2i (gD w (eB g + 67) b)) = 0) (k : Q (some (.int (fFaultAt (rowPl g w r) (FP.d2i (gD w (eB g + 67) b))))) w) : gM g d mX0_workWithRow [.ref (eB g + 1), .ref q] w Q := by
  refine gM.of (by decide) (Nat.le_of_ble_eq_true rfl) ?_
  have o1 : gOb g w (eB g + 1) 0 := hS.ob 1 rfl
  have o66 : gOb g w (eB g + 66) 2 := hS.ob 66 rfl
  have r2 : gR w 2 (eB g + 1) = some (eB g + 66) := hS.rf 2 1 66 (by decide)
  have o68 : gOb g w (eB g + 68) 4 := hS.ob 68 rfl
  have r3 : gR w 3 (eB g + 1) = some (eB g + 68) := hS.rf 3 1 68 (by decide)
  obtain ⟨oR, -⟩ := hS.row hr
  refine g_aload_n dX0_workWithRow_0 rfl ?_
  refine g_aload_n dX0_workWithRow_1 rfl ?_
  refine g_getI 7 1 449 dX0_workWithRow_2 fX0_122 rfl rfl (by assumption) ?_
  refine g_callV (d1 := d - 1) (As := [_]) 0 dX0_workWithRow_5 vX0_189 (by omega) (by assumption) rfl rfl (Nat.le_of_ble_eq_true rfl) ?_
  refine c_rowAt hS (fun z => absurd z (by rw [ha]; exact fun y => y.elim (nI_pos (by omega)) (nI_ge hr (by decide)))) (fun j0 hj0 hij => ?_)
  obtain rfl : j0 = r := (nI_eq (by omega) (by omega)).mp (hij.symm.trans ha)
  refine g_astore_n dX0_workWithRow_8 (by decide) rfl ?_
  refine g_aload_n dX0_workWithRow_9 rfl ?_
  refine g_ifnonnull 15 dX0_workWithRow_10 (by decide) ?_
  refine g_aload_n dX0_workWithRow_15 rfl ?_
  refine g_getR 0 2 2 dX0_workWithRow_16 fX0_32 rfl rfl (by assumption) (by assumption) ?_
  refine g_aload_n dX0_workWithRow_19 rfl ?_
  refine g_getI 7 2 450 dX0_workWithRow_20 fX0_175 rfl rfl (by assumption) ?_
  refine g_callV (d1 := d - 1) (As := [_]) 2 dX0_workWithRow_23 vX0_193 (by omega) (by assumption) rfl rfl (Nat.le_of_ble_eq_true rfl) ?_
  refine c_wholeAt (by omega) hS ?_
  rw [hb, cAt_in hb2]
  refine g_istore_n dX0_workWithRow_26 (by decide) rfl ?_
  refine g_aload_n dX0_workWithRow_27 rfl ?_
  refine g_getI 7 0 448 dX0_workWithRow_28 fX0_99 rfl rfl (by assumption) ?_
  refine g_tableOut 132 dX0_workWithRow_31 (by rw [hw]; decide) (by decide) ?_
  refine g_aload_n dX0_workWithRow_132 rfl ?_
  refine g_iload_n dX0_workWithRow_133 rfl ?_
  refine g_callV (d1 := d - 1) (As := [_]) 6 dX0_workWithRow_134 vX0_217 (by omega) (by assumption) rfl rfl (Nat.le_of_ble_eq_true rfl) ?_
  refine c_fit (by omega) hS hr (fun _ => ?_) (fun _ _ _ z => absurd z hf)
  refine g_iret dX0_workWithRow_137 rfl ?_
  exact k
set_option maxHeartbeats 4000000 in
set_option maxRecDepth 20000 in
theorem c_wwFit {g : GE} {d : Nat} {w : GW} {Q : Option Value → GW → Prop} (hd : 5 ≤ d) {q r b : Nat} (hS : SK g w) (hq : gOb g w q 7) (hr : r < 18) (ha : gI w 449 q = nI r) (hb : gI w 450 q = nI b) (hb2 : b < 8) (hw : gI w 448 q = 18) {j : Nat} (hf : fFaultAt (rowPl g w r) (FP.d2i (gD w (eB g + 67) b)) = 0) (hj : j < 16) (hi : (FP.d2i (gD w (eB g + 67) b)) = nI j) (k : Q (some (.int 0)) (setA (setD w (aRd g r) j FP.dconst0) (aRz g r) j 1)) : gM g d mX0_workWithRow [.ref (eB g + 1), .ref q] w Q := by
  refine gM.of (by decide) (Nat.le_of_ble_eq_true rfl) ?_
  have o1 : gOb g w (eB g + 1) 0 := hS.ob 1 rfl
  have o66 : gOb g w (eB g + 66) 2 := hS.ob 66 rfl
  have r2 : gR w 2 (eB g + 1) = some (eB g + 66) := hS.rf 2 1 66 (by decide)
  have o68 : gOb g w (eB g + 68) 4 := hS.ob 68 rfl
  have r3 : gR w 3 (eB g + 1) = some (eB g + 68) := hS.rf 3 1 68 (by decide)
  obtain ⟨oR, -⟩ := hS.row hr
  refine g_aload_n dX0_workWithRow_0 rfl ?_
  refine g_aload_n dX0_workWithRow_1 rfl ?_
  refine g_getI 7 1 449 dX0_workWithRow_2 fX0_122 rfl rfl (by assumption) ?_
  refine g_callV (d1 := d - 1) (As := [_]) 0 dX0_workWithRow_5 vX0_189 (by omega) (by assumption) rfl rfl (Nat.le_of_ble_eq_true rfl) ?_
  refine c_rowAt hS (fun z => absurd z (by rw [ha]; exact fun y => y.elim (nI_pos (by omega)) (nI_ge hr (by decide)))) (fun j0 hj0 hij => ?_)
  obtain rfl : j0 = r := (nI_eq (by omega) (by omega)).mp (hij.symm.trans ha)
  refine g_astore_n dX0_workWithRow_8 (by decide) rfl ?_
  refine g_aload_n dX0_workWithRow_9 rfl ?_
  refine g_ifnonnull 15 dX0_workWithRow_10 (by decide) ?_
  refine g_aload_n dX0_workWithRow_15 rfl ?_
  refine g_getR 0 2 2 dX0_workWithRow_16 fX0_32 rfl rfl (by assumption) (by assumption) ?_
  refine g_aload_n dX0_workWithRow_19 rfl ?_
  refine g_getI 7 2 450 dX0_workWithRow_20 fX0_175 rfl rfl (by assumption) ?_
  refine g_callV (d1 := d - 1) (As := [_]) 2 dX0_workWithRow_23 vX0_193 (by omega) (by assumption) rfl rfl (Nat.le_of_ble_eq_true rfl) ?_
  refine c_wholeAt (by omega) hS ?_
  rw [hb, cAt_in hb2]
  refine g_istore_n dX0_workWithRow_26 (by decide) rfl ?_
  refine g_aload_n dX0_workWithRow_27 rfl ?_
  refine g_getI 7 0 448 dX0_workWithRow_28 fX0_99 rfl rfl (by assumption) ?_
  refine g_tableOut 132 dX0_workWithRow_31 (by rw [hw]; decide) (by decide) ?_
  refine g_aload_n dX0_workWithRow_132 rfl ?_
  refine g_iload_n dX0_workWithRow_133 rfl ?_
  refine g_callV (d1 := d - 1) (As := [_]) 6 dX0_workWithRow_134 vX0_217 (by omega) (by assumption) rfl rfl (Nat.le_of_ble_eq_true rfl) ?_
  refine c_fit (by omega) hS hr (fun z => absurd hf z) (fun j2 hj2 hi2 _ => ?_)
  obtain rfl : j2 = j := (nI_eq (by omega) (by omega)).mp (hi2.symm.trans hi)
  refine g_iret dX0_workWithRow_137 rfl ?_
  exact k
/-- the step's work, as doStep chooses it by the step's kind -/
def gMW (g : GE) (d q : Nat) (w : GW) (Q : Option Value → GW → Prop) : Prop := (gI w 448 q < 19 → gM g d mX0_workWithRow [.ref (eB g + 1), .ref q] w Q) ∧ (¬ gI w 448 q < 19 → gM g d mX0_workWithDials [.ref (eB g + 1), .ref q] w Q)
def AnsW (g : GE) (d q : Nat) (w : GW) (v : Option Value) (w1 : GW) : Prop := ∀ Q : Option Value → GW → Prop, Q v w1 → gMW g d q w Q
theorem AnsW.row {g : GE} {d q : Nat} {w : GW} {v : Option Value} {w1 : GW} (h : AnsW g d q w v w1) (hw : gI w 448 q < 19) : Ans g d mX0_workWithRow [.ref (eB g + 1), .ref q] w v w1 := fun Q k => And.left (h Q k) hw
theorem AnsW.dials {g : GE} {d q : Nat} {w : GW} {v : Option Value} {w1 : GW} (h : AnsW g d q w v w1) (hw : ¬ gI w 448 q < 19) : Ans g d mX0_workWithDials [.ref (eB g + 1), .ref q] w v w1 := fun Q k => And.right (h Q k) hw
theorem gMW_row {g : GE} {d q : Nat} {w : GW} {Q : Option Value → GW → Prop} (h : gI w 448 q < 19) (k : gM g d mX0_workWithRow [.ref (eB g + 1), .ref q] w Q) : gMW g d q w Q := ⟨fun _ => k, fun z => absurd h z⟩
theorem gMW_dials {g : GE} {d q : Nat} {w : GW} {Q : Option Value → GW → Prop} (h : ¬ gI w 448 q < 19) (k : gM g d mX0_workWithDials [.ref (eB g + 1), .ref q] w Q) : gMW g d q w Q := ⟨fun z => absurd z h, fun _ => k⟩
set_option maxHeartbeats 4000000 in
set_option maxRecDepth 20000 in
theorem c_wdSet {g : GE} {d : Nat} {w : GW} {Q : Option Value → GW → Prop} (hd : 6 ≤ d) {q : Nat} (hS : SK g w) (hq : gOb g w q 7) (hw : gI w 448 q = 19) {a : Nat} (ha : gI w 449 q = nI a) (ha2 : a < 8) (hbe : ¬ fBeyond (FP.ddiv (FP.i2d (gI w 450 q)) dEight)) (k : Q (some (.int 0)) (setD w (eB g + 67) a (FP.ddiv (FP.i2d (gI w 450 q)) dEight))) : gM g d mX0_workWithDials [.ref (eB g + 1), .ref q] w Q := by
  refine gM.of (by decide) (Nat.le_of_ble_eq_true rfl) ?_
  have o1 : gOb g w (eB g + 1) 0 := hS.ob 1 rfl
  have o66 : gOb g w (eB g + 66) 2 := hS.ob 66 rfl
  have r2 : gR w 2 (eB g + 1) = some (eB g + 66) := hS.rf 2 1 66 (by decide)
  have o68 : gOb g w (eB g + 68) 4 := hS.ob 68 rfl
  have r3 : gR w 3 (eB g + 1) = some (eB g + 68) := hS.rf 3 1 68 (by decide)
  refine g_aload_n dX0_workWithDials_0 rfl ?_
  refine g_getI 7 0 448 dX0_workWithDials_1 fX0_99 rfl rfl (by assumption) ?_
  refine g_tableIn (off := 36) 40 dX0_workWithDials_4 (by rw [hw]; decide) (by rw [hw]; decide) (by rw [hw]; rfl) (by decide) ?_
  refine g_aload_n dX0_workWithDials_40 rfl ?_
  refine g_getR 0 2 2 dX0_workWithDials_41 fX0_32 rfl rfl (by assumption) (by assumption) ?_
  refine g_aload_n dX0_workWithDials_44 rfl ?_
  refine g_getI 7 1 449 dX0_workWithDials_45 fX0_122 rfl rfl hq ?_
  rw [ha]
  refine g_aload_n dX0_workWithDials_48 rfl ?_
  refine g_getI 7 2 450 dX0_workWithDials_49 fX0_175 rfl rfl (by assumption) ?_
  refine g_i2d dX0_workWithDials_52 ?_
  refine g_ldc2d dX0_workWithDials_53 qX0_227 ?_
  refine g_ddiv dX0_workWithDials_56 (nn_eighth _) ?_
  refine g_callV (d1 := d - 1) (As := [_, _]) 2 dX0_workWithDials_57 vX0_206 (by omega) (by assumption) rfl rfl (Nat.le_of_ble_eq_true rfl) ?_
  refine c_turn hS ha2 (fun z => absurd z hbe) (fun _ => ?_)
  refine g_iret dX0_workWithDials_60 rfl ?_
  exact k
theorem c_workSet {g : GE} {d : Nat} {w : GW} {Q : Option Value → GW → Prop} (hd : 6 ≤ d) {q : Nat} (hS : SK g w) (hq : gOb g w q 7) (hw : gI w 448 q = 19) {a : Nat} (ha : gI w 449 q = nI a) (ha2 : a < 8) (hbe : ¬ fBeyond (FP.ddiv (FP.i2d (gI w 450 q)) dEight)) (k : Q (some (.int 0)) (setD w (eB g + 67) a (FP.ddiv (FP.i2d (gI w 450 q)) dEight))) : gMW g d q w Q := gMW_dials (by rw [hw]; decide) (c_wdSet hd hS hq hw ha ha2 hbe k)
set_option maxHeartbeats 4000000 in
set_option maxRecDepth 20000 in
theorem c_wdFine {g : GE} {d : Nat} {w : GW} {Q : Option Value → GW → Prop} (hd : 6 ≤ d) {q : Nat} (hS : SK g w) (hq : gOb g w q 7) (hw : gI w 448 q = 20) {v : Int32} {w1 : GW} (hM : Ans g (d - 1) mX0_doFine [.ref (eB g + 1), .ref q] w (some (.int v)) w1) (k : Q (some (.int v)) w1) : gM g d mX0_workWithDials [.ref (eB g + 1), .ref q] w Q := by
  refine gM.of (by decide) (Nat.le_of_ble_eq_true rfl) ?_
  have o1 : gOb g w (eB g + 1) 0 := hS.ob 1 rfl
  have o66 : gOb g w (eB g + 66) 2 := hS.ob 66 rfl
  have r2 : gR w 2 (eB g + 1) = some (eB g + 66) := hS.rf 2 1 66 (by decide)
  have o68 : gOb g w (eB g + 68) 4 := hS.ob 68 rfl
  have r3 : gR w 3 (eB g + 1) = some (eB g + 68) := hS.rf 3 1 68 (by decide)
  refine g_aload_n dX0_workWithDials_0 rfl ?_
  refine g_getI 7 0 448 dX0_workWithDials_1 fX0_99 rfl rfl (by assumption) ?_
  refine g_tableIn (off := 57) 61 dX0_workWithDials_4 (by rw [hw]; decide) (by rw [hw]; decide) (by rw [hw]; rfl) (by decide) ?_
  refine g_aload_n dX0_workWithDials_61 rfl ?_
  refine g_aload_n dX0_workWithDials_62 rfl ?_
  refine g_callV (d1 := d - 1) (As := [_]) 0 dX0_workWithDials_63 vX0_229 (by omega) (by assumption) rfl rfl (Nat.le_of_ble_eq_true rfl) ?_
  refine hM _ ?_
  refine g_iret dX0_workWithDials_66 rfl ?_
  exact k
theorem c_workFine {g : GE} {d : Nat} {w : GW} {Q : Option Value → GW → Prop} (hd : 6 ≤ d) {q : Nat} (hS : SK g w) (hq : gOb g w q 7) (hw : gI w 448 q = 20) {v : Int32} {w1 : GW} (hM : Ans g (d - 1) mX0_doFine [.ref (eB g + 1), .ref q] w (some (.int v)) w1) (k : Q (some (.int v)) w1) : gMW g d q w Q := gMW_dials (by rw [hw]; decide) (c_wdFine hd hS hq hw hM k)
set_option maxHeartbeats 4000000 in
set_option maxRecDepth 20000 in
theorem c_wdRough {g : GE} {d : Nat} {w : GW} {Q : Option Value → GW → Prop} (hd : 6 ≤ d) {q : Nat} (hS : SK g w) (hq : gOb g w q 7) (hw : gI w 448 q = 21) {v : Int32} {w1 : GW} (hM : Ans g (d - 1) mX0_doRough [.ref (eB g + 1), .ref q] w (some (.int v)) w1) (k : Q (some (.int v)) w1) : gM g d mX0_workWithDials [.ref (eB g + 1), .ref q] w Q := by
  refine gM.of (by decide) (Nat.le_of_ble_eq_true rfl) ?_
  have o1 : gOb g w (eB g + 1) 0 := hS.ob 1 rfl
  have o66 : gOb g w (eB g + 66) 2 := hS.ob 66 rfl
  have r2 : gR w 2 (eB g + 1) = some (eB g + 66) := hS.rf 2 1 66 (by decide)
  have o68 : gOb g w (eB g + 68) 4 := hS.ob 68 rfl
  have r3 : gR w 3 (eB g + 1) = some (eB g + 68) := hS.rf 3 1 68 (by decide)
  refine g_aload_n dX0_workWithDials_0 rfl ?_
  refine g_getI 7 0 448 dX0_workWithDials_1 fX0_99 rfl rfl (by assumption) ?_
  refine g_tableIn (off := 63) 67 dX0_workWithDials_4 (by rw [hw]; decide) (by rw [hw]; decide) (by rw [hw]; rfl) (by decide) ?_
  refine g_aload_n dX0_workWithDials_67 rfl ?_
  refine g_aload_n dX0_workWithDials_68 rfl ?_
  refine g_callV (d1 := d - 1) (As := [_]) 0 dX0_workWithDials_69 vX0_232 (by omega) (by assumption) rfl rfl (Nat.le_of_ble_eq_true rfl) ?_
  refine hM _ ?_
  refine g_iret dX0_workWithDials_72 rfl ?_
  exact k
theorem c_workRough {g : GE} {d : Nat} {w : GW} {Q : Option Value → GW → Prop} (hd : 6 ≤ d) {q : Nat} (hS : SK g w) (hq : gOb g w q 7) (hw : gI w 448 q = 21) {v : Int32} {w1 : GW} (hM : Ans g (d - 1) mX0_doRough [.ref (eB g + 1), .ref q] w (some (.int v)) w1) (k : Q (some (.int v)) w1) : gMW g d q w Q := gMW_dials (by rw [hw]; decide) (c_wdRough hd hS hq hw hM k)
set_option maxHeartbeats 4000000 in
set_option maxRecDepth 20000 in
theorem c_wdWhole {g : GE} {d : Nat} {w : GW} {Q : Option Value → GW → Prop} (hd : 6 ≤ d) {q : Nat} (hS : SK g w) (hq : gOb g w q 7) (hw : gI w 448 q = 22) {v : Int32} {w1 : GW} (hM : Ans g (d - 1) mX0_doWhole [.ref (eB g + 1), .ref q] w (some (.int v)) w1) (k : Q (some (.int v)) w1) : gM g d mX0_workWithDials [.ref (eB g + 1), .ref q] w Q := by
  refine gM.of (by decide) (Nat.le_of_ble_eq_true rfl) ?_
  have o1 : gOb g w (eB g + 1) 0 := hS.ob 1 rfl
  have o66 : gOb g w (eB g + 66) 2 := hS.ob 66 rfl
  have r2 : gR w 2 (eB g + 1) = some (eB g + 66) := hS.rf 2 1 66 (by decide)
  have o68 : gOb g w (eB g + 68) 4 := hS.ob 68 rfl
  have r3 : gR w 3 (eB g + 1) = some (eB g + 68) := hS.rf 3 1 68 (by decide)
  refine g_aload_n dX0_workWithDials_0 rfl ?_
  refine g_getI 7 0 448 dX0_workWithDials_1 fX0_99 rfl rfl (by assumption) ?_
  refine g_tableIn (off := 69) 73 dX0_workWithDials_4 (by rw [hw]; decide) (by rw [hw]; decide) (by rw [hw]; rfl) (by decide) ?_
  refine g_aload_n dX0_workWithDials_73 rfl ?_
  refine g_aload_n dX0_workWithDials_74 rfl ?_
  refine g_callV (d1 := d - 1) (As := [_]) 0 dX0_workWithDials_75 vX0_235 (by omega) (by assumption) rfl rfl (Nat.le_of_ble_eq_true rfl) ?_
  refine hM _ ?_
  refine g_iret dX0_workWithDials_78 rfl ?_
  exact k
theorem c_workWhole {g : GE} {d : Nat} {w : GW} {Q : Option Value → GW → Prop} (hd : 6 ≤ d) {q : Nat} (hS : SK g w) (hq : gOb g w q 7) (hw : gI w 448 q = 22) {v : Int32} {w1 : GW} (hM : Ans g (d - 1) mX0_doWhole [.ref (eB g + 1), .ref q] w (some (.int v)) w1) (k : Q (some (.int v)) w1) : gMW g d q w Q := gMW_dials (by rw [hw]; decide) (c_wdWhole hd hS hq hw hM k)
set_option maxHeartbeats 4000000 in
set_option maxRecDepth 20000 in
theorem c_wdWide {g : GE} {d : Nat} {w : GW} {Q : Option Value → GW → Prop} (hd : 6 ≤ d) {q : Nat} (hS : SK g w) (hq : gOb g w q 7) (hw : gI w 448 q = 23) {v : Int32} {w1 : GW} (hM : Ans g (d - 1) mX0_doWide [.ref (eB g + 1), .ref q] w (some (.int v)) w1) (k : Q (some (.int v)) w1) : gM g d mX0_workWithDials [.ref (eB g + 1), .ref q] w Q := by
  refine gM.of (by decide) (Nat.le_of_ble_eq_true rfl) ?_
  have o1 : gOb g w (eB g + 1) 0 := hS.ob 1 rfl
  have o66 : gOb g w (eB g + 66) 2 := hS.ob 66 rfl
  have r2 : gR w 2 (eB g + 1) = some (eB g + 66) := hS.rf 2 1 66 (by decide)
  have o68 : gOb g w (eB g + 68) 4 := hS.ob 68 rfl
  have r3 : gR w 3 (eB g + 1) = some (eB g + 68) := hS.rf 3 1 68 (by decide)
  refine g_aload_n dX0_workWithDials_0 rfl ?_
  refine g_getI 7 0 448 dX0_workWithDials_1 fX0_99 rfl rfl (by assumption) ?_
  refine g_tableIn (off := 75) 79 dX0_workWithDials_4 (by rw [hw]; decide) (by rw [hw]; decide) (by rw [hw]; rfl) (by decide) ?_
  refine g_aload_n dX0_workWithDials_79 rfl ?_
  refine g_aload_n dX0_workWithDials_80 rfl ?_
  refine g_callV (d1 := d - 1) (As := [_]) 0 dX0_workWithDials_81 vX0_238 (by omega) (by assumption) rfl rfl (Nat.le_of_ble_eq_true rfl) ?_
  refine hM _ ?_
  refine g_iret dX0_workWithDials_84 rfl ?_
  exact k
theorem c_workWide {g : GE} {d : Nat} {w : GW} {Q : Option Value → GW → Prop} (hd : 6 ≤ d) {q : Nat} (hS : SK g w) (hq : gOb g w q 7) (hw : gI w 448 q = 23) {v : Int32} {w1 : GW} (hM : Ans g (d - 1) mX0_doWide [.ref (eB g + 1), .ref q] w (some (.int v)) w1) (k : Q (some (.int v)) w1) : gMW g d q w Q := gMW_dials (by rw [hw]; decide) (c_wdWide hd hS hq hw hM k)
set_option maxHeartbeats 4000000 in
set_option maxRecDepth 20000 in
theorem c_wdNote {g : GE} {d : Nat} {w : GW} {Q : Option Value → GW → Prop} (hd : 6 ≤ d) {q : Nat} (hS : SK g w) (hq : gOb g w q 7) (hw : gI w 448 q = 24) {a n : Nat} (ha : gI w 449 q = nI a) (ha2 : a < 8) (hu : gI w 257 (eB g + 68) = nI n) (hn : n < 800) (k : Q (some (.int 0)) (setI (setD w (eB g + 69) n (gD w (eB g + 67) a)) 257 (eB g + 68) (nI (n + 1)))) : gM g d mX0_workWithDials [.ref (eB g + 1), .ref q] w Q := by
  refine gM.of (by decide) (Nat.le_of_ble_eq_true rfl) ?_
  have o1 : gOb g w (eB g + 1) 0 := hS.ob 1 rfl
  have o66 : gOb g w (eB g + 66) 2 := hS.ob 66 rfl
  have r2 : gR w 2 (eB g + 1) = some (eB g + 66) := hS.rf 2 1 66 (by decide)
  have o68 : gOb g w (eB g + 68) 4 := hS.ob 68 rfl
  have r3 : gR w 3 (eB g + 1) = some (eB g + 68) := hS.rf 3 1 68 (by decide)
  refine g_aload_n dX0_workWithDials_0 rfl ?_
  refine g_getI 7 0 448 dX0_workWithDials_1 fX0_99 rfl rfl (by assumption) ?_
  refine g_tableOut 85 dX0_workWithDials_4 (by rw [hw]; decide) (by decide) ?_
  refine g_aload_n dX0_workWithDials_85 rfl ?_
  refine g_getR 0 3 3 dX0_workWithDials_86 fX0_39 rfl rfl (by assumption) (by assumption) ?_
  refine g_aload_n dX0_workWithDials_89 rfl ?_
  refine g_getR 0 2 2 dX0_workWithDials_90 fX0_32 rfl rfl (by assumption) (by assumption) ?_
  refine g_aload_n dX0_workWithDials_93 rfl ?_
  refine g_getI 7 1 449 dX0_workWithDials_94 fX0_122 rfl rfl (by assumption) ?_
  refine g_callV (d1 := d - 1) (As := [_]) 2 dX0_workWithDials_97 vX0_168 (by omega) (by assumption) rfl rfl (Nat.le_of_ble_eq_true rfl) ?_
  refine c_at hS ?_
  rw [ha, cAt_in ha2]
  refine g_callV (d1 := d - 1) (As := [_]) 4 dX0_workWithDials_100 vX0_181 (by omega) (by assumption) rfl rfl (Nat.le_of_ble_eq_true rfl) ?_
  refine c_append hS hu hn ?_
  refine g_iconstV (v := 0) dX0_workWithDials_103 (by decide) ?_
  refine g_iret dX0_workWithDials_104 rfl ?_
  exact k
theorem c_workNote {g : GE} {d : Nat} {w : GW} {Q : Option Value → GW → Prop} (hd : 6 ≤ d) {q : Nat} (hS : SK g w) (hq : gOb g w q 7) (hw : gI w 448 q = 24) {a n : Nat} (ha : gI w 449 q = nI a) (ha2 : a < 8) (hu : gI w 257 (eB g + 68) = nI n) (hn : n < 800) (k : Q (some (.int 0)) (setI (setD w (eB g + 69) n (gD w (eB g + 67) a)) 257 (eB g + 68) (nI (n + 1)))) : gMW g d q w Q := gMW_dials (by rw [hw]; decide) (c_wdNote hd hS hq hw ha ha2 hu hn k)
theorem c_workRow13 {g : GE} {d : Nat} {w : GW} {Q : Option Value → GW → Prop} {q : Nat} (hw : gI w 448 q = 13) {v : Int32} {w1 : GW} (hM : Ans g d mX0_workWithRow [.ref (eB g + 1), .ref q] w (some (.int v)) w1) (k : Q (some (.int v)) w1) : gMW g d q w Q := gMW_row (by rw [hw]; decide) (hM _ k)
theorem c_workRow14 {g : GE} {d : Nat} {w : GW} {Q : Option Value → GW → Prop} {q : Nat} (hw : gI w 448 q = 14) {v : Int32} {w1 : GW} (hM : Ans g d mX0_workWithRow [.ref (eB g + 1), .ref q] w (some (.int v)) w1) (k : Q (some (.int v)) w1) : gMW g d q w Q := gMW_row (by rw [hw]; decide) (hM _ k)
theorem c_workRow15 {g : GE} {d : Nat} {w : GW} {Q : Option Value → GW → Prop} {q : Nat} (hw : gI w 448 q = 15) {v : Int32} {w1 : GW} (hM : Ans g d mX0_workWithRow [.ref (eB g + 1), .ref q] w (some (.int v)) w1) (k : Q (some (.int v)) w1) : gMW g d q w Q := gMW_row (by rw [hw]; decide) (hM _ k)
theorem c_workRow16 {g : GE} {d : Nat} {w : GW} {Q : Option Value → GW → Prop} {q : Nat} (hw : gI w 448 q = 16) {v : Int32} {w1 : GW} (hM : Ans g d mX0_workWithRow [.ref (eB g + 1), .ref q] w (some (.int v)) w1) (k : Q (some (.int v)) w1) : gMW g d q w Q := gMW_row (by rw [hw]; decide) (hM _ k)
theorem c_workRow17 {g : GE} {d : Nat} {w : GW} {Q : Option Value → GW → Prop} {q : Nat} (hw : gI w 448 q = 17) {v : Int32} {w1 : GW} (hM : Ans g d mX0_workWithRow [.ref (eB g + 1), .ref q] w (some (.int v)) w1) (k : Q (some (.int v)) w1) : gMW g d q w Q := gMW_row (by rw [hw]; decide) (hM _ k)
theorem c_workRow18 {g : GE} {d : Nat} {w : GW} {Q : Option Value → GW → Prop} {q : Nat} (hw : gI w 448 q = 18) {v : Int32} {w1 : GW} (hM : Ans g d mX0_workWithRow [.ref (eB g + 1), .ref q] w (some (.int v)) w1) (k : Q (some (.int v)) w1) : gMW g d q w Q := gMW_row (by rw [hw]; decide) (hM _ k)
set_option maxHeartbeats 4000000 in
set_option maxRecDepth 20000 in
theorem c_useAgain {g : GE} {d : Nat} {w : GW} {Q : Option Value → GW → Prop} (hd : 3 ≤ d) {q f : Nat} (hS : SK g w) (hq : gOb g w q 7) (hf : gOb g w f 3) (hw : gI w 448 q = 8) (k : Q (some (.int 3)) (setR w 8 (eB g + 1) (some f))) : gM g d mX0_useCaught [.ref (eB g + 1), .ref q, .ref f] w Q := by
  refine gM.of (by decide) (Nat.le_of_ble_eq_true rfl) ?_
  have o1 : gOb g w (eB g + 1) 0 := hS.ob 1 rfl
  have o66 : gOb g w (eB g + 66) 2 := hS.ob 66 rfl
  have r2 : gR w 2 (eB g + 1) = some (eB g + 66) := hS.rf 2 1 66 (by decide)
  have o68 : gOb g w (eB g + 68) 4 := hS.ob 68 rfl
  have r3 : gR w 3 (eB g + 1) = some (eB g + 68) := hS.rf 3 1 68 (by decide)
  refine g_aload_n dX0_useCaught_0 rfl ?_
  refine g_getI 7 0 448 dX0_useCaught_1 fX0_99 rfl rfl (by assumption) ?_
  refine g_lookup (off := 28) 32 dX0_useCaught_4 (by decide) (by rw [hw]; rfl) (by decide) ?_
  refine g_aload_n dX0_useCaught_32 rfl ?_
  refine g_aload_n dX0_useCaught_33 rfl ?_
  refine g_callV (d1 := d - 1) (As := [_]) 0 dX0_useCaught_34 vX0_128 (by omega) (by assumption) rfl rfl (Nat.le_of_ble_eq_true rfl) ?_
  refine c_leaveBy hS ?_
  refine g_iret dX0_useCaught_37 rfl ?_
  exact k
set_option maxHeartbeats 4000000 in
set_option maxRecDepth 20000 in
theorem c_useWrapT {g : GE} {d : Nat} {w : GW} {Q : Option Value → GW → Prop} (hd : 3 ≤ d) {q f : Nat} (hS : SK g w) (hq : gOb g w q 7) (hf : gOb g w f 3) (hw : gI w 448 q = 9) (h5 : ¬ gI w 195 f < 5) (k : Q (some (.int 3)) (thrF g w 10 (gI w 453 q) 0 0 (gI w 453 q) (fWeight 10 0 1))) : gM g d mX0_useCaught [.ref (eB g + 1), .ref q, .ref f] w Q := by
  refine gM.of (by decide) (Nat.le_of_ble_eq_true rfl) ?_
  have o1 : gOb g w (eB g + 1) 0 := hS.ob 1 rfl
  have o66 : gOb g w (eB g + 66) 2 := hS.ob 66 rfl
  have r2 : gR w 2 (eB g + 1) = some (eB g + 66) := hS.rf 2 1 66 (by decide)
  have o68 : gOb g w (eB g + 68) 4 := hS.ob 68 rfl
  have r3 : gR w 3 (eB g + 1) = some (eB g + 68) := hS.rf 3 1 68 (by decide)
  refine g_aload_n dX0_useCaught_0 rfl ?_
  refine g_getI 7 0 448 dX0_useCaught_1 fX0_99 rfl rfl (by assumption) ?_
  refine g_lookup (off := 34) 38 dX0_useCaught_4 (by decide) (by rw [hw]; rfl) (by decide) ?_
  refine g_aload_n dX0_useCaught_38 rfl ?_
  refine g_getI 3 3 195 dX0_useCaught_39 fX0_178 rfl rfl (by assumption) ?_
  refine g_iconstV (v := 5) dX0_useCaught_42 (by decide) ?_
  refine g_icmp_lt 56 dX0_useCaught_43 (by decide) (fun q => absurd q (h5)) (fun _ => ?_)
  refine g_aload_n dX0_useCaught_46 rfl ?_
  refine g_bipushV (v := 10) dX0_useCaught_47 (by decide) ?_
  refine g_aload_n dX0_useCaught_49 rfl ?_
  refine g_callV (d1 := d - 1) (As := [_, _]) 0 dX0_useCaught_50 vX0_95 (by omega) (by assumption) rfl rfl (Nat.le_of_ble_eq_true rfl) ?_
  refine c_throwNew (by omega) hS hq (by decide) ?_
  refine g_goto 78 dX0_useCaught_53 (by decide) ?_
  refine g_iret dX0_useCaught_78 rfl ?_
  exact k
set_option maxHeartbeats 4000000 in
set_option maxRecDepth 20000 in
theorem c_useWrap {g : GE} {d : Nat} {w : GW} {Q : Option Value → GW → Prop} (hd : 3 ≤ d) {q f : Nat} (hS : SK g w) (hq : gOb g w q 7) (hf : gOb g w f 3) (hw : gI w 448 q = 9) (h5 : gI w 195 f < 5) (k : Q (some (.int 3)) (thrF g w 11 (gI w 453 q) (gI w 449 q) (gI w 195 f + 1) (gI w 196 f) (fWeight 11 (gI w 449 q) (1 + gI w 197 f)))) : gM g d mX0_useCaught [.ref (eB g + 1), .ref q, .ref f] w Q := by
  refine gM.of (by decide) (Nat.le_of_ble_eq_true rfl) ?_
  have o1 : gOb g w (eB g + 1) 0 := hS.ob 1 rfl
  have o66 : gOb g w (eB g + 66) 2 := hS.ob 66 rfl
  have r2 : gR w 2 (eB g + 1) = some (eB g + 66) := hS.rf 2 1 66 (by decide)
  have o68 : gOb g w (eB g + 68) 4 := hS.ob 68 rfl
  have r3 : gR w 3 (eB g + 1) = some (eB g + 68) := hS.rf 3 1 68 (by decide)
  have hB : eB g ≤ gN w := by have := hS.1; omega
  have hq2 := gOb_newO (c := 3) (N := 6) hq
  have hf2 := gOb_newO (c := 3) (N := 6) hf
  have eq2 : ∀ c, gI (newO w 3 6) c q = gI w c q := fun c => by rw [gI_newO, nul2, if_neg (Nat.ne_of_lt hq.2.1)]
  have ex : ∀ c, gI (newO w 3 6) c f = gI w c f := fun c => by rw [gI_newO, nul2, if_neg (Nat.ne_of_lt hf.2.1)]
  have hs2 := hS.newO 3 6
  have ha := gOb_selfO (g := g) (ci := 3) (N := 6) hB
  have o12 := hs2.ob 1 rfl
  refine g_aload_n dX0_useCaught_0 rfl ?_
  refine g_getI 7 0 448 dX0_useCaught_1 fX0_99 rfl rfl (by assumption) ?_
  refine g_lookup (off := 34) 38 dX0_useCaught_4 (by decide) (by rw [hw]; rfl) (by decide) ?_
  refine g_aload_n dX0_useCaught_38 rfl ?_
  refine g_getI 3 3 195 dX0_useCaught_39 fX0_178 rfl rfl (by assumption) ?_
  refine g_iconstV (v := 5) dX0_useCaught_42 (by decide) ?_
  refine g_icmp_lt 56 dX0_useCaught_43 (by decide) (fun _ => ?_) (fun q => absurd (h5) q)
  refine g_aload_n dX0_useCaught_56 rfl ?_
  refine g_new 3 6 dX0_useCaught_57 nX0_68 rfl ?_
  refine g_dup dX0_useCaught_60 rfl ?_
  refine g_bipushV (v := 11) dX0_useCaught_61 (by decide) ?_
  refine g_aload_n dX0_useCaught_63 rfl ?_
  refine g_getI 7 5 453 dX0_useCaught_64 fX0_119 rfl rfl hq2 ?_
  rw [eq2]
  refine g_aload_n dX0_useCaught_67 rfl ?_
  refine g_getI 7 1 449 dX0_useCaught_68 fX0_122 rfl rfl hq2 ?_
  rw [eq2]
  refine g_aload_n dX0_useCaught_71 rfl ?_
  refine g_callI (d1 := d - 1) (As := [_, _, _, _]) dX0_useCaught_72 iX0_125 (by omega) rfl rfl (Nat.le_of_ble_eq_true rfl) ?_
  refine c_Fault1 (by omega) ha hf2 ?_
  rw [ex 195, ex 196, ex 197]
  refine g_callV (d1 := d - 1) (As := [_]) 0 dX0_useCaught_75 vX0_128 (by omega) (by assumption) rfl rfl (Nat.le_of_ble_eq_true rfl) ?_
  refine c_leaveBy hs2.setF ?_
  refine g_iret dX0_useCaught_78 rfl ?_
  exact k
/-- TELL: four numbers of the fault f behind the n that are there -/
def tellW (g : GE) (w : GW) (n f : Nat) : GW := setI (setD (setI (setD (setI (setD (setI (setD w (eB g + 69) n (FP.i2d (gI w 192 f))) 257 (eB g + 68) (nI (n + 1))) (eB g + 69) (n + 1) (FP.i2d (gI w 193 f))) 257 (eB g + 68) (nI (n + 2))) (eB g + 69) (n + 2) (FP.i2d (gI w 197 f))) 257 (eB g + 68) (nI (n + 3))) (eB g + 69) (n + 3) (FP.i2d (gI w 195 f))) 257 (eB g + 68) (nI (n + 4))
theorem SK_nt {g : GE} {w : GW} (h : SK g w) {a i : Nat} {x : UInt64} {y : Int32} : SK g (setI (setD w (eB g + 69) i x) 257 a y) := (h.setD _ _ _).setI 257 a y (by decide)
set_option maxHeartbeats 4000000 in
set_option maxRecDepth 20000 in
theorem c_useTell {g : GE} {d : Nat} {w : GW} {Q : Option Value → GW → Prop} (hd : 3 ≤ d) {q f : Nat} (hS : SK g w) (hq : gOb g w q 7) (hf : gOb g w f 3) (hw : gI w 448 q = 10) {n : Nat} (hu : gI w 257 (eB g + 68) = nI n) (hn : n + 4 ≤ 800) (k : Q (some (.int 0)) (tellW g w n f)) : gM g d mX0_useCaught [.ref (eB g + 1), .ref q, .ref f] w Q := by
  refine gM.of (by decide) (Nat.le_of_ble_eq_true rfl) ?_
  have o1 : gOb g w (eB g + 1) 0 := hS.ob 1 rfl
  have o66 : gOb g w (eB g + 66) 2 := hS.ob 66 rfl
  have r2 : gR w 2 (eB g + 1) = some (eB g + 66) := hS.rf 2 1 66 (by decide)
  have o68 : gOb g w (eB g + 68) 4 := hS.ob 68 rfl
  have r3 : gR w 3 (eB g + 1) = some (eB g + 68) := hS.rf 3 1 68 (by decide)
  refine g_aload_n dX0_useCaught_0 rfl ?_
  refine g_getI 7 0 448 dX0_useCaught_1 fX0_99 rfl rfl (by assumption) ?_
  refine g_lookup (off := 75) 79 dX0_useCaught_4 (by decide) (by rw [hw]; rfl) (by decide) ?_
  refine g_aload_n dX0_useCaught_79 rfl ?_
  refine g_getR 0 3 3 dX0_useCaught_80 fX0_39 rfl rfl (by assumption) (by assumption) ?_
  refine g_aload_n dX0_useCaught_83 rfl ?_
  refine g_getI 3 0 192 dX0_useCaught_84 fX0_67 rfl rfl (by assumption) ?_
  refine g_i2d dX0_useCaught_87 ?_
  refine g_callV (d1 := d - 1) (As := [_]) 4 dX0_useCaught_88 vX0_181 (by omega) (by assumption) rfl rfl (Nat.le_of_ble_eq_true rfl) ?_
  refine c_append (hS) (n := n) hu (by omega) ?_
  refine g_aload_n dX0_useCaught_91 rfl ?_
  refine g_getR 0 3 3 dX0_useCaught_92 fX0_39 rfl rfl (by assumption) (by assumption) ?_
  refine g_aload_n dX0_useCaught_95 rfl ?_
  refine g_getI 3 1 193 dX0_useCaught_96 fX0_185 rfl rfl (by assumption) ?_
  refine g_i2d dX0_useCaught_99 ?_
  refine g_callV (d1 := d - 1) (As := [_]) 4 dX0_useCaught_100 vX0_181 (by omega) (by assumption) rfl rfl (Nat.le_of_ble_eq_true rfl) ?_
  refine c_append (SK_nt hS) (n := n + 1) (by rw [gI_setI, up2_at]) (by omega) ?_
  refine g_aload_n dX0_useCaught_103 rfl ?_
  refine g_getR 0 3 3 dX0_useCaught_104 fX0_39 rfl rfl (by assumption) (by assumption) ?_
  refine g_aload_n dX0_useCaught_107 rfl ?_
  refine g_getI 3 5 197 dX0_useCaught_108 fX0_186 rfl rfl (by assumption) ?_
  refine g_i2d dX0_useCaught_111 ?_
  refine g_callV (d1 := d - 1) (As := [_]) 4 dX0_useCaught_112 vX0_181 (by omega) (by assumption) rfl rfl (Nat.le_of_ble_eq_true rfl) ?_
  refine c_append (SK_nt (SK_nt hS)) (n := n + 2) (by rw [gI_setI, up2_at]) (by omega) ?_
  refine g_aload_n dX0_useCaught_115 rfl ?_
  refine g_getR 0 3 3 dX0_useCaught_116 fX0_39 rfl rfl (by assumption) (by assumption) ?_
  refine g_aload_n dX0_useCaught_119 rfl ?_
  refine g_getI 3 3 195 dX0_useCaught_120 fX0_178 rfl rfl (by assumption) ?_
  refine g_i2d dX0_useCaught_123 ?_
  refine g_callV (d1 := d - 1) (As := [_]) 4 dX0_useCaught_124 vX0_181 (by omega) (by assumption) rfl rfl (Nat.le_of_ble_eq_true rfl) ?_
  refine c_append (SK_nt (SK_nt (SK_nt hS))) (n := n + 3) (by rw [gI_setI, up2_at]) (by omega) ?_
  refine g_iconstV (v := 0) dX0_useCaught_127 (by decide) ?_
  refine g_iret dX0_useCaught_128 rfl ?_
  exact k
