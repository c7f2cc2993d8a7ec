/-! ===== both objects made: closed worlds by offsets ===== -/
def vS0 : GW := ((0, 0), (fun _ => 0), (fun _ => 0), (fun _ _ => 0), (fun _ _ => none), (fun _ _ => 0), (fun _ _ => 0), (fun _ _ => none))
def vS1 : GW := newO vS0 8 1
def vS2 : GW := newO vS1 0 9
def vB1 : GW := newO vS2 5 5
def vB2 : GW := vRou vB1 2 (0)
def vB3 : GW := setR vB2 4 1 (some 2)
def vB4 : GW := newA vB3 13 4
def vB5 : GW := setR vB4 0 1 (some 4)
def vB6 : GW := setP vB5 4 0 (some 2)
def vB7 : GW := newO vB6 5 5
def vB8 : GW := vRou vB7 5 (1)
def vB9 : GW := setP vB8 4 1 (some 5)
def vB10 : GW := newO vB9 5 5
def vB11 : GW := vRou vB10 7 (2)
def vB12 : GW := setP vB11 4 2 (some 7)
def vB13 : GW := newO vB12 5 5
def vB14 : GW := vRou vB13 9 (3)
def vB15 : GW := setP vB14 4 3 (some 9)
def vB16 : GW := newA vB15 14 18
def vB17 : GW := setR vB16 1 1 (some 11)
def vB18 : GW := newO vB17 6 4
def vB19 : GW := vRow vB18 12 (((0 : Int32) / 2))
def vB20 : GW := setP vB19 11 0 (some 12)
def vB21 : GW := newO vB20 6 4
def vB22 : GW := vRow vB21 15 (((1 : Int32) / 2))
def vB23 : GW := setP vB22 11 1 (some 15)
def vB24 : GW := newO vB23 6 4
def vB25 : GW := vRow vB24 18 (((2 : Int32) / 2))
def vB26 : GW := setP vB25 11 2 (some 18)
def vB27 : GW := newO vB26 6 4
def vB28 : GW := vRow vB27 21 (((3 : Int32) / 2))
def vB29 : GW := setP vB28 11 3 (some 21)
def vB30 : GW := newO vB29 6 4
def vB31 : GW := vRow vB30 24 (((4 : Int32) / 2))
def vB32 : GW := setP vB31 11 4 (some 24)
def vB33 : GW := newO vB32 6 4
def vB34 : GW := vRow vB33 27 (((5 : Int32) / 2))
def vB35 : GW := setP vB34 11 5 (some 27)
def vB36 : GW := newO vB35 6 4
def vB37 : GW := vRow vB36 30 (((6 : Int32) / 2))
def vB38 : GW := setP vB37 11 6 (some 30)
def vB39 : GW := newO vB38 6 4
def vB40 : GW := vRow vB39 33 (((7 : Int32) / 2))
def vB41 : GW := setP vB40 11 7 (some 33)
def vB42 : GW := newO vB41 6 4
def vB43 : GW := vRow vB42 36 (((8 : Int32) / 2))
def vB44 : GW := setP vB43 11 8 (some 36)
def vB45 : GW := newO vB44 6 4
def vB46 : GW := vRow vB45 39 (((9 : Int32) / 2))
def vB47 : GW := setP vB46 11 9 (some 39)
def vB48 : GW := newO vB47 6 4
def vB49 : GW := vRow vB48 42 (((10 : Int32) / 2))
def vB50 : GW := setP vB49 11 10 (some 42)
def vB51 : GW := newO vB50 6 4
def vB52 : GW := vRow vB51 45 (((11 : Int32) / 2))
def vB53 : GW := setP vB52 11 11 (some 45)
def vB54 : GW := newO vB53 6 4
def vB55 : GW := vRow vB54 48 (((12 : Int32) / 2))
def vB56 : GW := setP vB55 11 12 (some 48)
def vB57 : GW := newO vB56 6 4
def vB58 : GW := vRow vB57 51 (((13 : Int32) / 2))
def vB59 : GW := setP vB58 11 13 (some 51)
def vB60 : GW := newO vB59 6 4
def vB61 : GW := vRow vB60 54 (((14 : Int32) / 2))
def vB62 : GW := setP vB61 11 14 (some 54)
def vB63 : GW := newO vB62 6 4
def vB64 : GW := vRow vB63 57 (((15 : Int32) / 2))
def vB65 : GW := setP vB64 11 15 (some 57)
def vB66 : GW := newO vB65 6 4
def vB67 : GW := vRow vB66 60 (((16 : Int32) / 2))
def vB68 : GW := setP vB67 11 16 (some 60)
def vB69 : GW := newO vB68 6 4
def vB70 : GW := vRow vB69 63 (((17 : Int32) / 2))
def vB71 : GW := setP vB70 11 17 (some 63)
def vB72 : GW := newO vB71 2 1
def vB73 : GW := vDia vB72 66
def vB74 : GW := setR vB73 2 1 (some 66)
def vB75 : GW := newO vB74 4 2
def vB76 : GW := vLog vB75 68
def vB77 : GW := setR vB76 3 1 (some 68)
set_option maxHeartbeats 4000000 in
set_option maxRecDepth 20000 in
theorem c_initBench {g : GE} {d : Nat} {w : GW} {Q : Option Value → GW → Prop} (hd : 3 ≤ d) (hS : Sh g w vS2) (k : ∀ W, Sh g W vB77 → Q none W) : gM g d mX0_init [.ref (eB g + 1)] w Q := by
  refine gM.of (by decide) (Nat.le_of_ble_eq_true rfl) ?_
  refine g_aload_n dX0_init_0 rfl ?_
  refine g_objInit dX0_init_1 oX0_1 (by omega) (Nat.le_of_ble_eq_true rfl) ?_
  refine g_aload_n dX0_init_4 rfl ?_
  refine s_new 5 5 2 hS dX0_init_5 nX0_7 rfl (by decide +kernel) ?_
  intro w hS
  change Sh g w vB1 at hS
  refine g_dup dX0_init_8 rfl ?_
  refine g_iconstV (v := 0) dX0_init_9 (by decide) ?_
  refine g_callI (d1 := d - 1) (As := [_]) dX0_init_10 iX0_9 (by omega) rfl rfl (Nat.le_of_ble_eq_true rfl) ?_
  refine c_initRou (a := 2) (by omega) hS (by decide +kernel) ?_
  intro w hS
  change Sh g w vB2 at hS
  refine s_putR 0 4 4 1 2 hS dX0_init_13 fX0_12 rfl rfl rfl rfl (by decide +kernel) ?_
  intro w hS
  change Sh g w vB3 at hS
  refine g_aload_n dX0_init_16 rfl ?_
  refine g_iconstV (v := 4) dX0_init_17 (by decide) ?_
  refine s_anew13 4 4 hS dX0_init_18 kX0_7 (by decide) (by decide) (by decide +kernel) ?_
  intro w hS
  change Sh g w vB4 at hS
  refine s_putFR 0 0 0 1 4 hS dX0_init_21 fX0_18 rfl rfl rfl rfl rfl rfl (by decide +kernel) ?_
  intro w hS
  change Sh g w vB5 at hS
  refine g_aload_n dX0_init_24 rfl ?_
  refine s_getR 0 0 0 1 4 hS dX0_init_25 fX0_18 rfl rfl (by decide +kernel) ?_
  refine g_iconstV (v := 0) dX0_init_28 (by decide) ?_
  refine g_aload_n dX0_init_29 rfl ?_
  refine s_getR 0 4 4 1 2 hS dX0_init_30 fX0_12 rfl rfl (by decide +kernel) ?_
  refine s_aast13 4 0 2 hS dX0_init_33 (by decide) (by decide +kernel) ?_
  intro w hS
  change Sh g w vB6 at hS
  refine g_iconstV (v := 1) dX0_init_34 (by decide) ?_
  refine g_istore_n (lz := [(1, .int 1), (0, .ref (eB g + 1))]) dX0_init_35 (by decide) rfl ?_
  refine g_iload_n dX0_init_36 rfl ?_
  refine g_iconstV (v := 4) dX0_init_37 (by decide) ?_
  refine g_icmp_ge 61 dX0_init_38 (by decide) (fun q => absurd q (by decide)) (fun _ => ?_)
  refine g_aload_n dX0_init_41 rfl ?_
  refine s_getR 0 0 0 1 4 hS dX0_init_42 fX0_18 rfl rfl (by decide +kernel) ?_
  refine g_iload_n dX0_init_45 rfl ?_
  refine s_new 5 5 5 hS dX0_init_46 nX0_7 rfl (by decide +kernel) ?_
  intro w hS
  change Sh g w vB7 at hS
  refine g_dup dX0_init_49 rfl ?_
  refine g_iload_n dX0_init_50 rfl ?_
  refine g_callI (d1 := d - 1) (As := [_]) dX0_init_51 iX0_9 (by omega) rfl rfl (Nat.le_of_ble_eq_true rfl) ?_
  refine c_initRou (a := 5) (by omega) hS (by decide +kernel) ?_
  intro w hS
  change Sh g w vB8 at hS
  refine s_aast13 4 1 5 hS dX0_init_54 (by decide) (by decide +kernel) ?_
  intro w hS
  change Sh g w vB9 at hS
  refine g_iinc (x := 1) (lz := [(1, .int 2), (0, .ref (eB g + 1))]) dX0_init_55 rfl (by decide) (by rw [show (1 : Int32) + Int32.ofInt 1 = 2 from by decide]; rfl) ?_
  refine g_goto 36 dX0_init_58 (by decide) ?_
  refine g_iload_n dX0_init_36 rfl ?_
  refine g_iconstV (v := 4) dX0_init_37 (by decide) ?_
  refine g_icmp_ge 61 dX0_init_38 (by decide) (fun q => absurd q (by decide)) (fun _ => ?_)
  refine g_aload_n dX0_init_41 rfl ?_
  refine s_getR 0 0 0 1 4 hS dX0_init_42 fX0_18 rfl rfl (by decide +kernel) ?_
  refine g_iload_n dX0_init_45 rfl ?_
  refine s_new 5 5 7 hS dX0_init_46 nX0_7 rfl (by decide +kernel) ?_
  intro w hS
  change Sh g w vB10 at hS
  refine g_dup dX0_init_49 rfl ?_
  refine g_iload_n dX0_init_50 rfl ?_
  refine g_callI (d1 := d - 1) (As := [_]) dX0_init_51 iX0_9 (by omega) rfl rfl (Nat.le_of_ble_eq_true rfl) ?_
  refine c_initRou (a := 7) (by omega) hS (by decide +kernel) ?_
  intro w hS
  change Sh g w vB11 at hS
  refine s_aast13 4 2 7 hS dX0_init_54 (by decide) (by decide +kernel) ?_
  intro w hS
  change Sh g w vB12 at hS
  refine g_iinc (x := 2) (lz := [(1, .int 3), (0, .ref (eB g + 1))]) dX0_init_55 rfl (by decide) (by rw [show (2 : Int32) + Int32.ofInt 1 = 3 from by decide]; rfl) ?_
  refine g_goto 36 dX0_init_58 (by decide) ?_
  refine g_iload_n dX0_init_36 rfl ?_
  refine g_iconstV (v := 4) dX0_init_37 (by decide) ?_
  refine g_icmp_ge 61 dX0_init_38 (by decide) (fun q => absurd q (by decide)) (fun _ => ?_)
  refine g_aload_n dX0_init_41 rfl ?_
  refine s_getR 0 0 0 1 4 hS dX0_init_42 fX0_18 rfl rfl (by decide +kernel) ?_
  refine g_iload_n dX0_init_45 rfl ?_
  refine s_new 5 5 9 hS dX0_init_46 nX0_7 rfl (by decide +kernel) ?_
  intro w hS
  change Sh g w vB13 at hS
  refine g_dup dX0_init_49 rfl ?_
  refine g_iload_n dX0_init_50 rfl ?_
  refine g_callI (d1 := d - 1) (As := [_]) dX0_init_51 iX0_9 (by omega) rfl rfl (Nat.le_of_ble_eq_true rfl) ?_
  refine c_initRou (a := 9) (by omega) hS (by decide +kernel) ?_
  intro w hS
  change Sh g w vB14 at hS
  refine s_aast13 4 3 9 hS dX0_init_54 (by decide) (by decide +kernel) ?_
  intro w hS
  change Sh g w vB15 at hS
  refine g_iinc (x := 3) (lz := [(1, .int 4), (0, .ref (eB g + 1))]) dX0_init_55 rfl (by decide) (by rw [show (3 : Int32) + Int32.ofInt 1 = 4 from by decide]; rfl) ?_
  refine g_goto 36 dX0_init_58 (by decide) ?_
  refine g_iload_n dX0_init_36 rfl ?_
  refine g_iconstV (v := 4) dX0_init_37 (by decide) ?_
  refine g_icmp_ge 61 dX0_init_38 (by decide) (fun _ => ?_) (fun q => absurd (by decide) q)
  refine g_aload_n dX0_init_61 rfl ?_
  refine g_bipushV (v := 18) dX0_init_62 (by decide) ?_
  refine s_anew14 18 11 hS dX0_init_64 kX0_22 (by decide) (by decide) (by decide +kernel) ?_
  intro w hS
  change Sh g w vB16 at hS
  refine s_putFR 0 1 1 1 11 hS dX0_init_67 fX0_24 rfl rfl rfl rfl rfl rfl (by decide +kernel) ?_
  intro w hS
  change Sh g w vB17 at hS
  refine g_iconstV (v := 0) dX0_init_70 (by decide) ?_
  refine g_istore_n (lz := [(1, .int 0), (0, .ref (eB g + 1))]) dX0_init_71 (by decide) rfl ?_
  refine g_iload_n dX0_init_72 rfl ?_
  refine g_bipushV (v := 18) dX0_init_73 (by decide) ?_
  refine g_icmp_ge 100 dX0_init_75 (by decide) (fun q => absurd q (by decide)) (fun _ => ?_)
  refine g_aload_n dX0_init_78 rfl ?_
  refine s_getR 0 1 1 1 11 hS dX0_init_79 fX0_24 rfl rfl (by decide +kernel) ?_
  refine g_iload_n dX0_init_82 rfl ?_
  refine s_new 6 4 12 hS dX0_init_83 nX0_22 rfl (by decide +kernel) ?_
  intro w hS
  change Sh g w vB18 at hS
  refine g_dup dX0_init_86 rfl ?_
  refine g_iload_n dX0_init_87 rfl ?_
  refine g_iconstV (v := 2) dX0_init_88 (by decide) ?_
  refine g_idiv dX0_init_89 (by decide) ?_
  refine g_callI (d1 := d - 1) (As := [_]) dX0_init_90 iX0_28 (by omega) rfl rfl (Nat.le_of_ble_eq_true rfl) ?_
  refine c_initRow (a := 12) (by omega) hS (by decide +kernel) ?_
  intro w hS
  change Sh g w vB19 at hS
  refine s_aast14 11 0 12 hS dX0_init_93 (by decide) (by decide +kernel) ?_
  intro w hS
  change Sh g w vB20 at hS
  refine g_iinc (x := 0) (lz := [(1, .int 1), (0, .ref (eB g + 1))]) dX0_init_94 rfl (by decide) (by rw [show (0 : Int32) + Int32.ofInt 1 = 1 from by decide]; rfl) ?_
  refine g_goto 72 dX0_init_97 (by decide) ?_
  refine g_iload_n dX0_init_72 rfl ?_
  refine g_bipushV (v := 18) dX0_init_73 (by decide) ?_
  refine g_icmp_ge 100 dX0_init_75 (by decide) (fun q => absurd q (by decide)) (fun _ => ?_)
  refine g_aload_n dX0_init_78 rfl ?_
  refine s_getR 0 1 1 1 11 hS dX0_init_79 fX0_24 rfl rfl (by decide +kernel) ?_
  refine g_iload_n dX0_init_82 rfl ?_
  refine s_new 6 4 15 hS dX0_init_83 nX0_22 rfl (by decide +kernel) ?_
  intro w hS
  change Sh g w vB21 at hS
  refine g_dup dX0_init_86 rfl ?_
  refine g_iload_n dX0_init_87 rfl ?_
  refine g_iconstV (v := 2) dX0_init_88 (by decide) ?_
  refine g_idiv dX0_init_89 (by decide) ?_
  refine g_callI (d1 := d - 1) (As := [_]) dX0_init_90 iX0_28 (by omega) rfl rfl (Nat.le_of_ble_eq_true rfl) ?_
  refine c_initRow (a := 15) (by omega) hS (by decide +kernel) ?_
  intro w hS
  change Sh g w vB22 at hS
  refine s_aast14 11 1 15 hS dX0_init_93 (by decide) (by decide +kernel) ?_
  intro w hS
  change Sh g w vB23 at hS
  refine g_iinc (x := 1) (lz := [(1, .int 2), (0, .ref (eB g + 1))]) dX0_init_94 rfl (by decide) (by rw [show (1 : Int32) + Int32.ofInt 1 = 2 from by decide]; rfl) ?_
  refine g_goto 72 dX0_init_97 (by decide) ?_
  refine g_iload_n dX0_init_72 rfl ?_
  refine g_bipushV (v := 18) dX0_init_73 (by decide) ?_
  refine g_icmp_ge 100 dX0_init_75 (by decide) (fun q => absurd q (by decide)) (fun _ => ?_)
  refine g_aload_n dX0_init_78 rfl ?_
  refine s_getR 0 1 1 1 11 hS dX0_init_79 fX0_24 rfl rfl (by decide +kernel) ?_
  refine g_iload_n dX0_init_82 rfl ?_
  refine s_new 6 4 18 hS dX0_init_83 nX0_22 rfl (by decide +kernel) ?_
  intro w hS
  change Sh g w vB24 at hS
  refine g_dup dX0_init_86 rfl ?_
  refine g_iload_n dX0_init_87 rfl ?_
  refine g_iconstV (v := 2) dX0_init_88 (by decide) ?_
  refine g_idiv dX0_init_89 (by decide) ?_
  refine g_callI (d1 := d - 1) (As := [_]) dX0_init_90 iX0_28 (by omega) rfl rfl (Nat.le_of_ble_eq_true rfl) ?_
  refine c_initRow (a := 18) (by omega) hS (by decide +kernel) ?_
  intro w hS
  change Sh g w vB25 at hS
  refine s_aast14 11 2 18 hS dX0_init_93 (by decide) (by decide +kernel) ?_
  intro w hS
  change Sh g w vB26 at hS
  refine g_iinc (x := 2) (lz := [(1, .int 3), (0, .ref (eB g + 1))]) dX0_init_94 rfl (by decide) (by rw [show (2 : Int32) + Int32.ofInt 1 = 3 from by decide]; rfl) ?_
  refine g_goto 72 dX0_init_97 (by decide) ?_
  refine g_iload_n dX0_init_72 rfl ?_
  refine g_bipushV (v := 18) dX0_init_73 (by decide) ?_
  refine g_icmp_ge 100 dX0_init_75 (by decide) (fun q => absurd q (by decide)) (fun _ => ?_)
  refine g_aload_n dX0_init_78 rfl ?_
  refine s_getR 0 1 1 1 11 hS dX0_init_79 fX0_24 rfl rfl (by decide +kernel) ?_
  refine g_iload_n dX0_init_82 rfl ?_
  refine s_new 6 4 21 hS dX0_init_83 nX0_22 rfl (by decide +kernel) ?_
  intro w hS
  change Sh g w vB27 at hS
  refine g_dup dX0_init_86 rfl ?_
  refine g_iload_n dX0_init_87 rfl ?_
  refine g_iconstV (v := 2) dX0_init_88 (by decide) ?_
  refine g_idiv dX0_init_89 (by decide) ?_
  refine g_callI (d1 := d - 1) (As := [_]) dX0_init_90 iX0_28 (by omega) rfl rfl (Nat.le_of_ble_eq_true rfl) ?_
  refine c_initRow (a := 21) (by omega) hS (by decide +kernel) ?_
  intro w hS
  change Sh g w vB28 at hS
  refine s_aast14 11 3 21 hS dX0_init_93 (by decide) (by decide +kernel) ?_
  intro w hS
  change Sh g w vB29 at hS
  refine g_iinc (x := 3) (lz := [(1, .int 4), (0, .ref (eB g + 1))]) dX0_init_94 rfl (by decide) (by rw [show (3 : Int32) + Int32.ofInt 1 = 4 from by decide]; rfl) ?_
  refine g_goto 72 dX0_init_97 (by decide) ?_
  refine g_iload_n dX0_init_72 rfl ?_
  refine g_bipushV (v := 18) dX0_init_73 (by decide) ?_
  refine g_icmp_ge 100 dX0_init_75 (by decide) (fun q => absurd q (by decide)) (fun _ => ?_)
  refine g_aload_n dX0_init_78 rfl ?_
  refine s_getR 0 1 1 1 11 hS dX0_init_79 fX0_24 rfl rfl (by decide +kernel) ?_
  refine g_iload_n dX0_init_82 rfl ?_
  refine s_new 6 4 24 hS dX0_init_83 nX0_22 rfl (by decide +kernel) ?_
  intro w hS
  change Sh g w vB30 at hS
  refine g_dup dX0_init_86 rfl ?_
  refine g_iload_n dX0_init_87 rfl ?_
  refine g_iconstV (v := 2) dX0_init_88 (by decide) ?_
  refine g_idiv dX0_init_89 (by decide) ?_
  refine g_callI (d1 := d - 1) (As := [_]) dX0_init_90 iX0_28 (by omega) rfl rfl (Nat.le_of_ble_eq_true rfl) ?_
  refine c_initRow (a := 24) (by omega) hS (by decide +kernel) ?_
  intro w hS
  change Sh g w vB31 at hS
  refine s_aast14 11 4 24 hS dX0_init_93 (by decide) (by decide +kernel) ?_
  intro w hS
  change Sh g w vB32 at hS
  refine g_iinc (x := 4) (lz := [(1, .int 5), (0, .ref (eB g + 1))]) dX0_init_94 rfl (by decide) (by rw [show (4 : Int32) + Int32.ofInt 1 = 5 from by decide]; rfl) ?_
  refine g_goto 72 dX0_init_97 (by decide) ?_
  refine g_iload_n dX0_init_72 rfl ?_
  refine g_bipushV (v := 18) dX0_init_73 (by decide) ?_
  refine g_icmp_ge 100 dX0_init_75 (by decide) (fun q => absurd q (by decide)) (fun _ => ?_)
  refine g_aload_n dX0_init_78 rfl ?_
  refine s_getR 0 1 1 1 11 hS dX0_init_79 fX0_24 rfl rfl (by decide +kernel) ?_
  refine g_iload_n dX0_init_82 rfl ?_
  refine s_new 6 4 27 hS dX0_init_83 nX0_22 rfl (by decide +kernel) ?_
  intro w hS
  change Sh g w vB33 at hS
  refine g_dup dX0_init_86 rfl ?_
  refine g_iload_n dX0_init_87 rfl ?_
  refine g_iconstV (v := 2) dX0_init_88 (by decide) ?_
  refine g_idiv dX0_init_89 (by decide) ?_
  refine g_callI (d1 := d - 1) (As := [_]) dX0_init_90 iX0_28 (by omega) rfl rfl (Nat.le_of_ble_eq_true rfl) ?_
  refine c_initRow (a := 27) (by omega) hS (by decide +kernel) ?_
  intro w hS
  change Sh g w vB34 at hS
  refine s_aast14 11 5 27 hS dX0_init_93 (by decide) (by decide +kernel) ?_
  intro w hS
  change Sh g w vB35 at hS
  refine g_iinc (x := 5) (lz := [(1, .int 6), (0, .ref (eB g + 1))]) dX0_init_94 rfl (by decide) (by rw [show (5 : Int32) + Int32.ofInt 1 = 6 from by decide]; rfl) ?_
  refine g_goto 72 dX0_init_97 (by decide) ?_
  refine g_iload_n dX0_init_72 rfl ?_
  refine g_bipushV (v := 18) dX0_init_73 (by decide) ?_
  refine g_icmp_ge 100 dX0_init_75 (by decide) (fun q => absurd q (by decide)) (fun _ => ?_)
  refine g_aload_n dX0_init_78 rfl ?_
  refine s_getR 0 1 1 1 11 hS dX0_init_79 fX0_24 rfl rfl (by decide +kernel) ?_
  refine g_iload_n dX0_init_82 rfl ?_
  refine s_new 6 4 30 hS dX0_init_83 nX0_22 rfl (by decide +kernel) ?_
  intro w hS
  change Sh g w vB36 at hS
  refine g_dup dX0_init_86 rfl ?_
  refine g_iload_n dX0_init_87 rfl ?_
  refine g_iconstV (v := 2) dX0_init_88 (by decide) ?_
  refine g_idiv dX0_init_89 (by decide) ?_
  refine g_callI (d1 := d - 1) (As := [_]) dX0_init_90 iX0_28 (by omega) rfl rfl (Nat.le_of_ble_eq_true rfl) ?_
  refine c_initRow (a := 30) (by omega) hS (by decide +kernel) ?_
  intro w hS
  change Sh g w vB37 at hS
  refine s_aast14 11 6 30 hS dX0_init_93 (by decide) (by decide +kernel) ?_
  intro w hS
  change Sh g w vB38 at hS
  refine g_iinc (x := 6) (lz := [(1, .int 7), (0, .ref (eB g + 1))]) dX0_init_94 rfl (by decide) (by rw [show (6 : Int32) + Int32.ofInt 1 = 7 from by decide]; rfl) ?_
  refine g_goto 72 dX0_init_97 (by decide) ?_
  refine g_iload_n dX0_init_72 rfl ?_
  refine g_bipushV (v := 18) dX0_init_73 (by decide) ?_
  refine g_icmp_ge 100 dX0_init_75 (by decide) (fun q => absurd q (by decide)) (fun _ => ?_)
  refine g_aload_n dX0_init_78 rfl ?_
  refine s_getR 0 1 1 1 11 hS dX0_init_79 fX0_24 rfl rfl (by decide +kernel) ?_
  refine g_iload_n dX0_init_82 rfl ?_
  refine s_new 6 4 33 hS dX0_init_83 nX0_22 rfl (by decide +kernel) ?_
  intro w hS
  change Sh g w vB39 at hS
  refine g_dup dX0_init_86 rfl ?_
  refine g_iload_n dX0_init_87 rfl ?_
  refine g_iconstV (v := 2) dX0_init_88 (by decide) ?_
  refine g_idiv dX0_init_89 (by decide) ?_
  refine g_callI (d1 := d - 1) (As := [_]) dX0_init_90 iX0_28 (by omega) rfl rfl (Nat.le_of_ble_eq_true rfl) ?_
  refine c_initRow (a := 33) (by omega) hS (by decide +kernel) ?_
  intro w hS
  change Sh g w vB40 at hS
  refine s_aast14 11 7 33 hS dX0_init_93 (by decide) (by decide +kernel) ?_
  intro w hS
  change Sh g w vB41 at hS
  refine g_iinc (x := 7) (lz := [(1, .int 8), (0, .ref (eB g + 1))]) dX0_init_94 rfl (by decide) (by rw [show (7 : Int32) + Int32.ofInt 1 = 8 from by decide]; rfl) ?_
  refine g_goto 72 dX0_init_97 (by decide) ?_
  refine g_iload_n dX0_init_72 rfl ?_
  refine g_bipushV (v := 18) dX0_init_73 (by decide) ?_
  refine g_icmp_ge 100 dX0_init_75 (by decide) (fun q => absurd q (by decide)) (fun _ => ?_)
  refine g_aload_n dX0_init_78 rfl ?_
  refine s_getR 0 1 1 1 11 hS dX0_init_79 fX0_24 rfl rfl (by decide +kernel) ?_
  refine g_iload_n dX0_init_82 rfl ?_
  refine s_new 6 4 36 hS dX0_init_83 nX0_22 rfl (by decide +kernel) ?_
  intro w hS
  change Sh g w vB42 at hS
  refine g_dup dX0_init_86 rfl ?_
  refine g_iload_n dX0_init_87 rfl ?_
  refine g_iconstV (v := 2) dX0_init_88 (by decide) ?_
  refine g_idiv dX0_init_89 (by decide) ?_
  refine g_callI (d1 := d - 1) (As := [_]) dX0_init_90 iX0_28 (by omega) rfl rfl (Nat.le_of_ble_eq_true rfl) ?_
  refine c_initRow (a := 36) (by omega) hS (by decide +kernel) ?_
  intro w hS
  change Sh g w vB43 at hS
  refine s_aast14 11 8 36 hS dX0_init_93 (by decide) (by decide +kernel) ?_
  intro w hS
  change Sh g w vB44 at hS
  refine g_iinc (x := 8) (lz := [(1, .int 9), (0, .ref (eB g + 1))]) dX0_init_94 rfl (by decide) (by rw [show (8 : Int32) + Int32.ofInt 1 = 9 from by decide]; rfl) ?_
  refine g_goto 72 dX0_init_97 (by decide) ?_
  refine g_iload_n dX0_init_72 rfl ?_
  refine g_bipushV (v := 18) dX0_init_73 (by decide) ?_
  refine g_icmp_ge 100 dX0_init_75 (by decide) (fun q => absurd q (by decide)) (fun _ => ?_)
  refine g_aload_n dX0_init_78 rfl ?_
  refine s_getR 0 1 1 1 11 hS dX0_init_79 fX0_24 rfl rfl (by decide +kernel) ?_
  refine g_iload_n dX0_init_82 rfl ?_
  refine s_new 6 4 39 hS dX0_init_83 nX0_22 rfl (by decide +kernel) ?_
  intro w hS
  change Sh g w vB45 at hS
  refine g_dup dX0_init_86 rfl ?_
  refine g_iload_n dX0_init_87 rfl ?_
  refine g_iconstV (v := 2) dX0_init_88 (by decide) ?_
  refine g_idiv dX0_init_89 (by decide) ?_
  refine g_callI (d1 := d - 1) (As := [_]) dX0_init_90 iX0_28 (by omega) rfl rfl (Nat.le_of_ble_eq_true rfl) ?_
  refine c_initRow (a := 39) (by omega) hS (by decide +kernel) ?_
  intro w hS
  change Sh g w vB46 at hS
  refine s_aast14 11 9 39 hS dX0_init_93 (by decide) (by decide +kernel) ?_
  intro w hS
  change Sh g w vB47 at hS
  refine g_iinc (x := 9) (lz := [(1, .int 10), (0, .ref (eB g + 1))]) dX0_init_94 rfl (by decide) (by rw [show (9 : Int32) + Int32.ofInt 1 = 10 from by decide]; rfl) ?_
  refine g_goto 72 dX0_init_97 (by decide) ?_
  refine g_iload_n dX0_init_72 rfl ?_
  refine g_bipushV (v := 18) dX0_init_73 (by decide) ?_
  refine g_icmp_ge 100 dX0_init_75 (by decide) (fun q => absurd q (by decide)) (fun _ => ?_)
  refine g_aload_n dX0_init_78 rfl ?_
  refine s_getR 0 1 1 1 11 hS dX0_init_79 fX0_24 rfl rfl (by decide +kernel) ?_
  refine g_iload_n dX0_init_82 rfl ?_
  refine s_new 6 4 42 hS dX0_init_83 nX0_22 rfl (by decide +kernel) ?_
  intro w hS
  change Sh g w vB48 at hS
  refine g_dup dX0_init_86 rfl ?_
  refine g_iload_n dX0_init_87 rfl ?_
  refine g_iconstV (v := 2) dX0_init_88 (by decide) ?_
  refine g_idiv dX0_init_89 (by decide) ?_
  refine g_callI (d1 := d - 1) (As := [_]) dX0_init_90 iX0_28 (by omega) rfl rfl (Nat.le_of_ble_eq_true rfl) ?_
  refine c_initRow (a := 42) (by omega) hS (by decide +kernel) ?_
  intro w hS
  change Sh g w vB49 at hS
  refine s_aast14 11 10 42 hS dX0_init_93 (by decide) (by decide +kernel) ?_
  intro w hS
  change Sh g w vB50 at hS
  refine g_iinc (x := 10) (lz := [(1, .int 11), (0, .ref (eB g + 1))]) dX0_init_94 rfl (by decide) (by rw [show (10 : Int32) + Int32.ofInt 1 = 11 from by decide]; rfl) ?_
  refine g_goto 72 dX0_init_97 (by decide) ?_
  refine g_iload_n dX0_init_72 rfl ?_
  refine g_bipushV (v := 18) dX0_init_73 (by decide) ?_
  refine g_icmp_ge 100 dX0_init_75 (by decide) (fun q => absurd q (by decide)) (fun _ => ?_)
  refine g_aload_n dX0_init_78 rfl ?_
  refine s_getR 0 1 1 1 11 hS dX0_init_79 fX0_24 rfl rfl (by decide +kernel) ?_
  refine g_iload_n dX0_init_82 rfl ?_
  refine s_new 6 4 45 hS dX0_init_83 nX0_22 rfl (by decide +kernel) ?_
  intro w hS
  change Sh g w vB51 at hS
  refine g_dup dX0_init_86 rfl ?_
  refine g_iload_n dX0_init_87 rfl ?_
  refine g_iconstV (v := 2) dX0_init_88 (by decide) ?_
  refine g_idiv dX0_init_89 (by decide) ?_
  refine g_callI (d1 := d - 1) (As := [_]) dX0_init_90 iX0_28 (by omega) rfl rfl (Nat.le_of_ble_eq_true rfl) ?_
  refine c_initRow (a := 45) (by omega) hS (by decide +kernel) ?_
  intro w hS
  change Sh g w vB52 at hS
  refine s_aast14 11 11 45 hS dX0_init_93 (by decide) (by decide +kernel) ?_
  intro w hS
  change Sh g w vB53 at hS
  refine g_iinc (x := 11) (lz := [(1, .int 12), (0, .ref (eB g + 1))]) dX0_init_94 rfl (by decide) (by rw [show (11 : Int32) + Int32.ofInt 1 = 12 from by decide]; rfl) ?_
  refine g_goto 72 dX0_init_97 (by decide) ?_
  refine g_iload_n dX0_init_72 rfl ?_
  refine g_bipushV (v := 18) dX0_init_73 (by decide) ?_
  refine g_icmp_ge 100 dX0_init_75 (by decide) (fun q => absurd q (by decide)) (fun _ => ?_)
  refine g_aload_n dX0_init_78 rfl ?_
  refine s_getR 0 1 1 1 11 hS dX0_init_79 fX0_24 rfl rfl (by decide +kernel) ?_
  refine g_iload_n dX0_init_82 rfl ?_
  refine s_new 6 4 48 hS dX0_init_83 nX0_22 rfl (by decide +kernel) ?_
  intro w hS
  change Sh g w vB54 at hS
  refine g_dup dX0_init_86 rfl ?_
  refine g_iload_n dX0_init_87 rfl ?_
  refine g_iconstV (v := 2) dX0_init_88 (by decide) ?_
  refine g_idiv dX0_init_89 (by decide) ?_
  refine g_callI (d1 := d - 1) (As := [_]) dX0_init_90 iX0_28 (by omega) rfl rfl (Nat.le_of_ble_eq_true rfl) ?_
  refine c_initRow (a := 48) (by omega) hS (by decide +kernel) ?_
  intro w hS
  change Sh g w vB55 at hS
  refine s_aast14 11 12 48 hS dX0_init_93 (by decide) (by decide +kernel) ?_
  intro w hS
  change Sh g w vB56 at hS
  refine g_iinc (x := 12) (lz := [(1, .int 13), (0, .ref (eB g + 1))]) dX0_init_94 rfl (by decide) (by rw [show (12 : Int32) + Int32.ofInt 1 = 13 from by decide]; rfl) ?_
  refine g_goto 72 dX0_init_97 (by decide) ?_
  refine g_iload_n dX0_init_72 rfl ?_
  refine g_bipushV (v := 18) dX0_init_73 (by decide) ?_
  refine g_icmp_ge 100 dX0_init_75 (by decide) (fun q => absurd q (by decide)) (fun _ => ?_)
  refine g_aload_n dX0_init_78 rfl ?_
  refine s_getR 0 1 1 1 11 hS dX0_init_79 fX0_24 rfl rfl (by decide +kernel) ?_
  refine g_iload_n dX0_init_82 rfl ?_
  refine s_new 6 4 51 hS dX0_init_83 nX0_22 rfl (by decide +kernel) ?_
  intro w hS
  change Sh g w vB57 at hS
  refine g_dup dX0_init_86 rfl ?_
  refine g_iload_n dX0_init_87 rfl ?_
  refine g_iconstV (v := 2) dX0_init_88 (by decide) ?_
  refine g_idiv dX0_init_89 (by decide) ?_
  refine g_callI (d1 := d - 1) (As := [_]) dX0_init_90 iX0_28 (by omega) rfl rfl (Nat.le_of_ble_eq_true rfl) ?_
  refine c_initRow (a := 51) (by omega) hS (by decide +kernel) ?_
  intro w hS
  change Sh g w vB58 at hS
  refine s_aast14 11 13 51 hS dX0_init_93 (by decide) (by decide +kernel) ?_
  intro w hS
  change Sh g w vB59 at hS
  refine g_iinc (x := 13) (lz := [(1, .int 14), (0, .ref (eB g + 1))]) dX0_init_94 rfl (by decide) (by rw [show (13 : Int32) + Int32.ofInt 1 = 14 from by decide]; rfl) ?_
  refine g_goto 72 dX0_init_97 (by decide) ?_
  refine g_iload_n dX0_init_72 rfl ?_
  refine g_bipushV (v := 18) dX0_init_73 (by decide) ?_
  refine g_icmp_ge 100 dX0_init_75 (by decide) (fun q => absurd q (by decide)) (fun _ => ?_)
  refine g_aload_n dX0_init_78 rfl ?_
  refine s_getR 0 1 1 1 11 hS dX0_init_79 fX0_24 rfl rfl (by decide +kernel) ?_
  refine g_iload_n dX0_init_82 rfl ?_
  refine s_new 6 4 54 hS dX0_init_83 nX0_22 rfl (by decide +kernel) ?_
  intro w hS
  change Sh g w vB60 at hS
  refine g_dup dX0_init_86 rfl ?_
  refine g_iload_n dX0_init_87 rfl ?_
  refine g_iconstV (v := 2) dX0_init_88 (by decide) ?_
  refine g_idiv dX0_init_89 (by decide) ?_
  refine g_callI (d1 := d - 1) (As := [_]) dX0_init_90 iX0_28 (by omega) rfl rfl (Nat.le_of_ble_eq_true rfl) ?_
  refine c_initRow (a := 54) (by omega) hS (by decide +kernel) ?_
  intro w hS
  change Sh g w vB61 at hS
  refine s_aast14 11 14 54 hS dX0_init_93 (by decide) (by decide +kernel) ?_
  intro w hS
  change Sh g w vB62 at hS
  refine g_iinc (x := 14) (lz := [(1, .int 15), (0, .ref (eB g + 1))]) dX0_init_94 rfl (by decide) (by rw [show (14 : Int32) + Int32.ofInt 1 = 15 from by decide]; rfl) ?_
  refine g_goto 72 dX0_init_97 (by decide) ?_
  refine g_iload_n dX0_init_72 rfl ?_
  refine g_bipushV (v := 18) dX0_init_73 (by decide) ?_
  refine g_icmp_ge 100 dX0_init_75 (by decide) (fun q => absurd q (by decide)) (fun _ => ?_)
  refine g_aload_n dX0_init_78 rfl ?_
  refine s_getR 0 1 1 1 11 hS dX0_init_79 fX0_24 rfl rfl (by decide +kernel) ?_
  refine g_iload_n dX0_init_82 rfl ?_
  refine s_new 6 4 57 hS dX0_init_83 nX0_22 rfl (by decide +kernel) ?_
  intro w hS
  change Sh g w vB63 at hS
  refine g_dup dX0_init_86 rfl ?_
  refine g_iload_n dX0_init_87 rfl ?_
  refine g_iconstV (v := 2) dX0_init_88 (by decide) ?_
  refine g_idiv dX0_init_89 (by decide) ?_
  refine g_callI (d1 := d - 1) (As := [_]) dX0_init_90 iX0_28 (by omega) rfl rfl (Nat.le_of_ble_eq_true rfl) ?_
  refine c_initRow (a := 57) (by omega) hS (by decide +kernel) ?_
  intro w hS
  change Sh g w vB64 at hS
  refine s_aast14 11 15 57 hS dX0_init_93 (by decide) (by decide +kernel) ?_
  intro w hS
  change Sh g w vB65 at hS
  refine g_iinc (x := 15) (lz := [(1, .int 16), (0, .ref (eB g + 1))]) dX0_init_94 rfl (by decide) (by rw [show (15 : Int32) + Int32.ofInt 1 = 16 from by decide]; rfl) ?_
  refine g_goto 72 dX0_init_97 (by decide) ?_
  refine g_iload_n dX0_init_72 rfl ?_
  refine g_bipushV (v := 18) dX0_init_73 (by decide) ?_
  refine g_icmp_ge 100 dX0_init_75 (by decide) (fun q => absurd q (by decide)) (fun _ => ?_)
  refine g_aload_n dX0_init_78 rfl ?_
  refine s_getR 0 1 1 1 11 hS dX0_init_79 fX0_24 rfl rfl (by decide +kernel) ?_
  refine g_iload_n dX0_init_82 rfl ?_
  refine s_new 6 4 60 hS dX0_init_83 nX0_22 rfl (by decide +kernel) ?_
  intro w hS
  change Sh g w vB66 at hS
  refine g_dup dX0_init_86 rfl ?_
  refine g_iload_n dX0_init_87 rfl ?_
  refine g_iconstV (v := 2) dX0_init_88 (by decide) ?_
  refine g_idiv dX0_init_89 (by decide) ?_
  refine g_callI (d1 := d - 1) (As := [_]) dX0_init_90 iX0_28 (by omega) rfl rfl (Nat.le_of_ble_eq_true rfl) ?_
  refine c_initRow (a := 60) (by omega) hS (by decide +kernel) ?_
  intro w hS
  change Sh g w vB67 at hS
  refine s_aast14 11 16 60 hS dX0_init_93 (by decide) (by decide +kernel) ?_
  intro w hS
  change Sh g w vB68 at hS
  refine g_iinc (x := 16) (lz := [(1, .int 17), (0, .ref (eB g + 1))]) dX0_init_94 rfl (by decide) (by rw [show (16 : Int32) + Int32.ofInt 1 = 17 from by decide]; rfl) ?_
  refine g_goto 72 dX0_init_97 (by decide) ?_
  refine g_iload_n dX0_init_72 rfl ?_
  refine g_bipushV (v := 18) dX0_init_73 (by decide) ?_
  refine g_icmp_ge 100 dX0_init_75 (by decide) (fun q => absurd q (by decide)) (fun _ => ?_)
  refine g_aload_n dX0_init_78 rfl ?_
  refine s_getR 0 1 1 1 11 hS dX0_init_79 fX0_24 rfl rfl (by decide +kernel) ?_
  refine g_iload_n dX0_init_82 rfl ?_
  refine s_new 6 4 63 hS dX0_init_83 nX0_22 rfl (by decide +kernel) ?_
  intro w hS
  change Sh g w vB69 at hS
  refine g_dup dX0_init_86 rfl ?_
  refine g_iload_n dX0_init_87 rfl ?_
  refine g_iconstV (v := 2) dX0_init_88 (by decide) ?_
  refine g_idiv dX0_init_89 (by decide) ?_
  refine g_callI (d1 := d - 1) (As := [_]) dX0_init_90 iX0_28 (by omega) rfl rfl (Nat.le_of_ble_eq_true rfl) ?_
  refine c_initRow (a := 63) (by omega) hS (by decide +kernel) ?_
  intro w hS
  change Sh g w vB70 at hS
  refine s_aast14 11 17 63 hS dX0_init_93 (by decide) (by decide +kernel) ?_
  intro w hS
  change Sh g w vB71 at hS
  refine g_iinc (x := 17) (lz := [(1, .int 18), (0, .ref (eB g + 1))]) dX0_init_94 rfl (by decide) (by rw [show (17 : Int32) + Int32.ofInt 1 = 18 from by decide]; rfl) ?_
  refine g_goto 72 dX0_init_97 (by decide) ?_
  refine g_iload_n dX0_init_72 rfl ?_
  refine g_bipushV (v := 18) dX0_init_73 (by decide) ?_
  refine g_icmp_ge 100 dX0_init_75 (by decide) (fun _ => ?_) (fun q => absurd (by decide) q)
  refine g_aload_n dX0_init_100 rfl ?_
  refine s_new 2 1 66 hS dX0_init_101 nX0_29 rfl (by decide +kernel) ?_
  intro w hS
  change Sh g w vB72 at hS
  refine g_dup dX0_init_104 rfl ?_
  refine g_callI (d1 := d - 1) (As := []) dX0_init_105 iX0_31 (by omega) rfl rfl (Nat.le_of_ble_eq_true rfl) ?_
  refine c_initDia (a := 66) (by omega) hS (by decide +kernel) ?_
  intro w hS
  change Sh g w vB73 at hS
  refine s_putFR 0 2 2 1 66 hS dX0_init_108 fX0_32 rfl rfl rfl rfl rfl rfl (by decide +kernel) ?_
  intro w hS
  change Sh g w vB74 at hS
  refine g_aload_n dX0_init_111 rfl ?_
  refine s_new 4 2 68 hS dX0_init_112 nX0_36 rfl (by decide +kernel) ?_
  intro w hS
  change Sh g w vB75 at hS
  refine g_dup dX0_init_115 rfl ?_
  refine g_callI (d1 := d - 1) (As := []) dX0_init_116 iX0_38 (by omega) rfl rfl (Nat.le_of_ble_eq_true rfl) ?_
  refine c_initLog (a := 68) (by omega) hS (by decide +kernel) ?_
  intro w hS
  change Sh g w vB76 at hS
  refine s_putFR 0 3 3 1 68 hS dX0_init_119 fX0_39 rfl rfl rfl rfl rfl rfl (by decide +kernel) ?_
  intro w hS
  change Sh g w vB77 at hS
  refine g_vret dX0_init_122 rfl ?_
  exact k _ hS
def vT : GW := setR vB77 512 0 (some 1)
set_option maxHeartbeats 4000000 in
set_option maxRecDepth 20000 in
theorem c_initTop {g : GE} {d : Nat} {w : GW} {Q : Option Value → GW → Prop} (hd : 4 ≤ d) (hS : Sh g w vS1) (k : ∀ W, Sh g W vT → Q none W) : gM g d mX9_init [.ref (eB g + 0)] w Q := by
  refine gM.of (by decide) (Nat.le_of_ble_eq_true rfl) ?_
  refine g_aload_n dX9_init_0 rfl ?_
  refine g_objInit dX9_init_1 oX9_1 (by omega) (Nat.le_of_ble_eq_true rfl) ?_
  refine g_aload_n dX9_init_4 rfl ?_
  refine s_new 0 9 1 hS dX9_init_5 nX9_7 rfl (by decide +kernel) ?_
  intro w hS
  refine g_dup dX9_init_8 rfl ?_
  refine g_callI (d1 := d - 1) (As := []) dX9_init_9 iX9_9 (by omega) rfl rfl (Nat.le_of_ble_eq_true rfl) ?_
  refine c_initBench (by omega) hS ?_
  intro w hS
  refine s_putFR 8 0 512 0 1 hS dX9_init_12 fX9_10 rfl rfl rfl rfl rfl rfl (by decide +kernel) ?_
  intro w hS
  refine g_vret dX9_init_15 rfl ?_
  exact k _ hS
def vM0 : GW := newO vT 9 40
