theorem g_iconst {g : GE} {d : Nat} {Y : GM} {pc : Nat} {ls : List (Nat × Value)} {st : List Value} {w : GW} {Q : Option Value → GW → Prop} {n : Int} (hd : decode Y.2.1 pc = .ok (.iconst n, 1)) (k : gF g d Y (pc + 1) ls (.int (Int32.ofInt n) :: st) w Q) : gF g d Y pc ls (st) w Q := by
  refine k.pure fun r w' h => ?_
  intro p e R s m args below meth c n0 u0 H locs lsA C h1 h2 h3 h4 h5 h6 h7
  exact lv_iconst C.1 C.2.1 hd rfl (h p e R s m args below meth c n0 u0 H locs lsA C h1 h2 h3 h4 h5 h6 h7)
theorem g_bipush {g : GE} {d : Nat} {Y : GM} {pc : Nat} {ls : List (Nat × Value)} {st : List Value} {w : GW} {Q : Option Value → GW → Prop} {n : Int} (hd : decode Y.2.1 pc = .ok (.bipush n, 2)) (k : gF g d Y (pc + 2) ls (.int ((Int8.ofInt n).toInt32) :: st) w Q) : gF g d Y pc ls (st) w Q := by
  refine k.pure fun r w' h => ?_
  intro p e R s m args below meth c n0 u0 H locs lsA C h1 h2 h3 h4 h5 h6 h7
  exact lv_bipush C.1 C.2.1 hd rfl (h p e R s m args below meth c n0 u0 H locs lsA C h1 h2 h3 h4 h5 h6 h7)
theorem g_sipush {g : GE} {d : Nat} {Y : GM} {pc : Nat} {ls : List (Nat × Value)} {st : List Value} {w : GW} {Q : Option Value → GW → Prop} {n : Int} (hd : decode Y.2.1 pc = .ok (.sipush n, 3)) (k : gF g d Y (pc + 3) ls (.int ((Int16.ofInt n).toInt32) :: st) w Q) : gF g d Y pc ls (st) w Q := by
  refine k.pure fun r w' h => ?_
  intro p e R s m args below meth c n0 u0 H locs lsA C h1 h2 h3 h4 h5 h6 h7
  exact lv_sipush C.1 C.2.1 hd rfl (h p e R s m args below meth c n0 u0 H locs lsA C h1 h2 h3 h4 h5 h6 h7)
theorem g_lconst {g : GE} {d : Nat} {Y : GM} {pc : Nat} {ls : List (Nat × Value)} {st : List Value} {w : GW} {Q : Option Value → GW → Prop} {n : Fin 2} (hd : decode Y.2.1 pc = .ok (.lconst n, 1)) (k : gF g d Y (pc + 1) ls (.long (Int64.ofNat (n : Nat)) :: st) w Q) : gF g d Y pc ls (st) w Q := by
  refine k.pure fun r w' h => ?_
  intro p e R s m args below meth c n0 u0 H locs lsA C h1 h2 h3 h4 h5 h6 h7
  exact lv_lconst C.1 C.2.1 hd rfl (h p e R s m args below meth c n0 u0 H locs lsA C h1 h2 h3 h4 h5 h6 h7)
theorem g_iconstV {g : GE} {d : Nat} {Y : GM} {pc : Nat} {ls : List (Nat × Value)} {st : List Value} {w : GW} {Q : Option Value → GW → Prop} {n : Int} {v : Int32} (hd : decode Y.2.1 pc = .ok (.iconst n, 1)) (hv : Int32.ofInt n = v) (k : gF g d Y (pc + 1) ls (.int v :: st) w Q) : gF g d Y pc ls (st) w Q := by
  refine k.pure fun r w' h => ?_
  intro p e R s m args below meth c n0 u0 H locs lsA C h1 h2 h3 h4 h5 h6 h7
  exact lv_iconst C.1 C.2.1 hd hv (h p e R s m args below meth c n0 u0 H locs lsA C h1 h2 h3 h4 h5 h6 h7)
theorem g_bipushV {g : GE} {d : Nat} {Y : GM} {pc : Nat} {ls : List (Nat × Value)} {st : List Value} {w : GW} {Q : Option Value → GW → Prop} {n : Int} {v : Int32} (hd : decode Y.2.1 pc = .ok (.bipush n, 2)) (hv : (Int8.ofInt n).toInt32 = v) (k : gF g d Y (pc + 2) ls (.int v :: st) w Q) : gF g d Y pc ls (st) w Q := by
  refine k.pure fun r w' h => ?_
  intro p e R s m args below meth c n0 u0 H locs lsA C h1 h2 h3 h4 h5 h6 h7
  exact lv_bipush C.1 C.2.1 hd hv (h p e R s m args below meth c n0 u0 H locs lsA C h1 h2 h3 h4 h5 h6 h7)
theorem g_sipushV {g : GE} {d : Nat} {Y : GM} {pc : Nat} {ls : List (Nat × Value)} {st : List Value} {w : GW} {Q : Option Value → GW → Prop} {n : Int} {v : Int32} (hd : decode Y.2.1 pc = .ok (.sipush n, 3)) (hv : (Int16.ofInt n).toInt32 = v) (k : gF g d Y (pc + 3) ls (.int v :: st) w Q) : gF g d Y pc ls (st) w Q := by
  refine k.pure fun r w' h => ?_
  intro p e R s m args below meth c n0 u0 H locs lsA C h1 h2 h3 h4 h5 h6 h7
  exact lv_sipush C.1 C.2.1 hd hv (h p e R s m args below meth c n0 u0 H locs lsA C h1 h2 h3 h4 h5 h6 h7)
theorem g_lconstV {g : GE} {d : Nat} {Y : GM} {pc : Nat} {ls : List (Nat × Value)} {st : List Value} {w : GW} {Q : Option Value → GW → Prop} {n : Fin 2} {v : Int64} (hd : decode Y.2.1 pc = .ok (.lconst n, 1)) (hv : Int64.ofNat (n : Nat) = v) (k : gF g d Y (pc + 1) ls (.long v :: st) w Q) : gF g d Y pc ls (st) w Q := by
  refine k.pure fun r w' h => ?_
  intro p e R s m args below meth c n0 u0 H locs lsA C h1 h2 h3 h4 h5 h6 h7
  exact lv_lconst C.1 C.2.1 hd hv (h p e R s m args below meth c n0 u0 H locs lsA C h1 h2 h3 h4 h5 h6 h7)
theorem g_iadd {g : GE} {d : Nat} {Y : GM} {pc : Nat} {ls : List (Nat × Value)} {st : List Value} {w : GW} {Q : Option Value → GW → Prop} {x y : Int32} (hd : decode Y.2.1 pc = .ok (.iadd, 1)) (k : gF g d Y (pc + 1) ls (.int (x + y) :: st) w Q) : gF g d Y pc ls (.int y :: .int x :: st) w Q := by
  refine k.pure fun r w' h => ?_
  intro p e R s m args below meth c n0 u0 H locs lsA C h1 h2 h3 h4 h5 h6 h7
  exact lv_iadd C.1 C.2.1 hd (h p e R s m args below meth c n0 u0 H locs lsA C h1 h2 h3 h4 h5 h6 h7)
theorem g_isub {g : GE} {d : Nat} {Y : GM} {pc : Nat} {ls : List (Nat × Value)} {st : List Value} {w : GW} {Q : Option Value → GW → Prop} {x y : Int32} (hd : decode Y.2.1 pc = .ok (.isub, 1)) (k : gF g d Y (pc + 1) ls (.int (x - y) :: st) w Q) : gF g d Y pc ls (.int y :: .int x :: st) w Q := by
  refine k.pure fun r w' h => ?_
  intro p e R s m args below meth c n0 u0 H locs lsA C h1 h2 h3 h4 h5 h6 h7
  exact lv_isub C.1 C.2.1 hd (h p e R s m args below meth c n0 u0 H locs lsA C h1 h2 h3 h4 h5 h6 h7)
theorem g_imul {g : GE} {d : Nat} {Y : GM} {pc : Nat} {ls : List (Nat × Value)} {st : List Value} {w : GW} {Q : Option Value → GW → Prop} {x y : Int32} (hd : decode Y.2.1 pc = .ok (.imul, 1)) (k : gF g d Y (pc + 1) ls (.int (x * y) :: st) w Q) : gF g d Y pc ls (.int y :: .int x :: st) w Q := by
  refine k.pure fun r w' h => ?_
  intro p e R s m args below meth c n0 u0 H locs lsA C h1 h2 h3 h4 h5 h6 h7
  exact lv_imul C.1 C.2.1 hd (h p e R s m args below meth c n0 u0 H locs lsA C h1 h2 h3 h4 h5 h6 h7)
theorem g_iand {g : GE} {d : Nat} {Y : GM} {pc : Nat} {ls : List (Nat × Value)} {st : List Value} {w : GW} {Q : Option Value → GW → Prop} {x y : Int32} (hd : decode Y.2.1 pc = .ok (.iand, 1)) (k : gF g d Y (pc + 1) ls (.int (x &&& y) :: st) w Q) : gF g d Y pc ls (.int y :: .int x :: st) w Q := by
  refine k.pure fun r w' h => ?_
  intro p e R s m args below meth c n0 u0 H locs lsA C h1 h2 h3 h4 h5 h6 h7
  exact lv_iand C.1 C.2.1 hd (h p e R s m args below meth c n0 u0 H locs lsA C h1 h2 h3 h4 h5 h6 h7)
theorem g_ior {g : GE} {d : Nat} {Y : GM} {pc : Nat} {ls : List (Nat × Value)} {st : List Value} {w : GW} {Q : Option Value → GW → Prop} {x y : Int32} (hd : decode Y.2.1 pc = .ok (.ior, 1)) (k : gF g d Y (pc + 1) ls (.int (x ||| y) :: st) w Q) : gF g d Y pc ls (.int y :: .int x :: st) w Q := by
  refine k.pure fun r w' h => ?_
  intro p e R s m args below meth c n0 u0 H locs lsA C h1 h2 h3 h4 h5 h6 h7
  exact lv_ior C.1 C.2.1 hd (h p e R s m args below meth c n0 u0 H locs lsA C h1 h2 h3 h4 h5 h6 h7)
theorem g_ixor {g : GE} {d : Nat} {Y : GM} {pc : Nat} {ls : List (Nat × Value)} {st : List Value} {w : GW} {Q : Option Value → GW → Prop} {x y : Int32} (hd : decode Y.2.1 pc = .ok (.ixor, 1)) (k : gF g d Y (pc + 1) ls (.int (x ^^^ y) :: st) w Q) : gF g d Y pc ls (.int y :: .int x :: st) w Q := by
  refine k.pure fun r w' h => ?_
  intro p e R s m args below meth c n0 u0 H locs lsA C h1 h2 h3 h4 h5 h6 h7
  exact lv_ixor C.1 C.2.1 hd (h p e R s m args below meth c n0 u0 H locs lsA C h1 h2 h3 h4 h5 h6 h7)
theorem g_idiv {g : GE} {d : Nat} {Y : GM} {pc : Nat} {ls : List (Nat × Value)} {st : List Value} {w : GW} {Q : Option Value → GW → Prop} {x y : Int32} (hd : decode Y.2.1 pc = .ok (.idiv, 1)) (hne : ¬ y = 0) (k : gF g d Y (pc + 1) ls (.int (x / y) :: st) w Q) : gF g d Y pc ls (.int y :: .int x :: st) w Q := by
  refine k.pure fun r w' h => ?_
  intro p e R s m args below meth c n0 u0 H locs lsA C h1 h2 h3 h4 h5 h6 h7
  exact lv_idiv C.1 C.2.1 hd hne (h p e R s m args below meth c n0 u0 H locs lsA C h1 h2 h3 h4 h5 h6 h7)
theorem g_irem {g : GE} {d : Nat} {Y : GM} {pc : Nat} {ls : List (Nat × Value)} {st : List Value} {w : GW} {Q : Option Value → GW → Prop} {x y : Int32} (hd : decode Y.2.1 pc = .ok (.irem, 1)) (hne : ¬ y = 0) (k : gF g d Y (pc + 1) ls (.int (x - x / y * y) :: st) w Q) : gF g d Y pc ls (.int y :: .int x :: st) w Q := by
  refine k.pure fun r w' h => ?_
  intro p e R s m args below meth c n0 u0 H locs lsA C h1 h2 h3 h4 h5 h6 h7
  exact lv_irem C.1 C.2.1 hd hne (h p e R s m args below meth c n0 u0 H locs lsA C h1 h2 h3 h4 h5 h6 h7)
theorem g_ladd {g : GE} {d : Nat} {Y : GM} {pc : Nat} {ls : List (Nat × Value)} {st : List Value} {w : GW} {Q : Option Value → GW → Prop} {x y : Int64} (hd : decode Y.2.1 pc = .ok (.ladd, 1)) (k : gF g d Y (pc + 1) ls (.long (x + y) :: st) w Q) : gF g d Y pc ls (.long y :: .long x :: st) w Q := by
  refine k.pure fun r w' h => ?_
  intro p e R s m args below meth c n0 u0 H locs lsA C h1 h2 h3 h4 h5 h6 h7
  exact lv_ladd C.1 C.2.1 hd (h p e R s m args below meth c n0 u0 H locs lsA C h1 h2 h3 h4 h5 h6 h7)
theorem g_lsub {g : GE} {d : Nat} {Y : GM} {pc : Nat} {ls : List (Nat × Value)} {st : List Value} {w : GW} {Q : Option Value → GW → Prop} {x y : Int64} (hd : decode Y.2.1 pc = .ok (.lsub, 1)) (k : gF g d Y (pc + 1) ls (.long (x - y) :: st) w Q) : gF g d Y pc ls (.long y :: .long x :: st) w Q := by
  refine k.pure fun r w' h => ?_
  intro p e R s m args below meth c n0 u0 H locs lsA C h1 h2 h3 h4 h5 h6 h7
  exact lv_lsub C.1 C.2.1 hd (h p e R s m args below meth c n0 u0 H locs lsA C h1 h2 h3 h4 h5 h6 h7)
theorem g_lmul {g : GE} {d : Nat} {Y : GM} {pc : Nat} {ls : List (Nat × Value)} {st : List Value} {w : GW} {Q : Option Value → GW → Prop} {x y : Int64} (hd : decode Y.2.1 pc = .ok (.lmul, 1)) (k : gF g d Y (pc + 1) ls (.long (x * y) :: st) w Q) : gF g d Y pc ls (.long y :: .long x :: st) w Q := by
  refine k.pure fun r w' h => ?_
  intro p e R s m args below meth c n0 u0 H locs lsA C h1 h2 h3 h4 h5 h6 h7
  exact lv_lmul C.1 C.2.1 hd (h p e R s m args below meth c n0 u0 H locs lsA C h1 h2 h3 h4 h5 h6 h7)
theorem g_land {g : GE} {d : Nat} {Y : GM} {pc : Nat} {ls : List (Nat × Value)} {st : List Value} {w : GW} {Q : Option Value → GW → Prop} {x y : Int64} (hd : decode Y.2.1 pc = .ok (.land, 1)) (k : gF g d Y (pc + 1) ls (.long (x &&& y) :: st) w Q) : gF g d Y pc ls (.long y :: .long x :: st) w Q := by
  refine k.pure fun r w' h => ?_
  intro p e R s m args below meth c n0 u0 H locs lsA C h1 h2 h3 h4 h5 h6 h7
  exact lv_land C.1 C.2.1 hd (h p e R s m args below meth c n0 u0 H locs lsA C h1 h2 h3 h4 h5 h6 h7)
theorem g_lor {g : GE} {d : Nat} {Y : GM} {pc : Nat} {ls : List (Nat × Value)} {st : List Value} {w : GW} {Q : Option Value → GW → Prop} {x y : Int64} (hd : decode Y.2.1 pc = .ok (.lor, 1)) (k : gF g d Y (pc + 1) ls (.long (x ||| y) :: st) w Q) : gF g d Y pc ls (.long y :: .long x :: st) w Q := by
  refine k.pure fun r w' h => ?_
  intro p e R s m args below meth c n0 u0 H locs lsA C h1 h2 h3 h4 h5 h6 h7
  exact lv_lor C.1 C.2.1 hd (h p e R s m args below meth c n0 u0 H locs lsA C h1 h2 h3 h4 h5 h6 h7)
theorem g_lxor {g : GE} {d : Nat} {Y : GM} {pc : Nat} {ls : List (Nat × Value)} {st : List Value} {w : GW} {Q : Option Value → GW → Prop} {x y : Int64} (hd : decode Y.2.1 pc = .ok (.lxor, 1)) (k : gF g d Y (pc + 1) ls (.long (x ^^^ y) :: st) w Q) : gF g d Y pc ls (.long y :: .long x :: st) w Q := by
  refine k.pure fun r w' h => ?_
  intro p e R s m args below meth c n0 u0 H locs lsA C h1 h2 h3 h4 h5 h6 h7
  exact lv_lxor C.1 C.2.1 hd (h p e R s m args below meth c n0 u0 H locs lsA C h1 h2 h3 h4 h5 h6 h7)
theorem g_ldiv {g : GE} {d : Nat} {Y : GM} {pc : Nat} {ls : List (Nat × Value)} {st : List Value} {w : GW} {Q : Option Value → GW → Prop} {x y : Int64} (hd : decode Y.2.1 pc = .ok (.ldiv, 1)) (hne : ¬ y = 0) (k : gF g d Y (pc + 1) ls (.long (x / y) :: st) w Q) : gF g d Y pc ls (.long y :: .long x :: st) w Q := by
  refine k.pure fun r w' h => ?_
  intro p e R s m args below meth c n0 u0 H locs lsA C h1 h2 h3 h4 h5 h6 h7
  exact lv_ldiv C.1 C.2.1 hd hne (h p e R s m args below meth c n0 u0 H locs lsA C h1 h2 h3 h4 h5 h6 h7)
theorem g_lrem {g : GE} {d : Nat} {Y : GM} {pc : Nat} {ls : List (Nat × Value)} {st : List Value} {w : GW} {Q : Option Value → GW → Prop} {x y : Int64} (hd : decode Y.2.1 pc = .ok (.lrem, 1)) (hne : ¬ y = 0) (k : gF g d Y (pc + 1) ls (.long (x - x / y * y) :: st) w Q) : gF g d Y pc ls (.long y :: .long x :: st) w Q := by
  refine k.pure fun r w' h => ?_
  intro p e R s m args below meth c n0 u0 H locs lsA C h1 h2 h3 h4 h5 h6 h7
  exact lv_lrem C.1 C.2.1 hd hne (h p e R s m args below meth c n0 u0 H locs lsA C h1 h2 h3 h4 h5 h6 h7)
theorem g_lcmp {g : GE} {d : Nat} {Y : GM} {pc : Nat} {ls : List (Nat × Value)} {st : List Value} {w : GW} {Q : Option Value → GW → Prop} {x y : Int64} (hd : decode Y.2.1 pc = .ok (.lcmp, 1)) (k : gF g d Y (pc + 1) ls (.int (lg_cmp x y) :: st) w Q) : gF g d Y pc ls (.long y :: .long x :: st) w Q := by
  refine k.pure fun r w' h => ?_
  intro p e R s m args below meth c n0 u0 H locs lsA C h1 h2 h3 h4 h5 h6 h7
  exact W.lcmp C.1 C.2.1 hd (h p e R s m args below meth c n0 u0 H locs lsA C h1 h2 h3 h4 h5 h6 h7)
theorem g_i2b {g : GE} {d : Nat} {Y : GM} {pc : Nat} {ls : List (Nat × Value)} {st : List Value} {w : GW} {Q : Option Value → GW → Prop} {x : Int32} (hd : decode Y.2.1 pc = .ok (.i2b, 1)) (k : gF g d Y (pc + 1) ls (.int (x.toInt8.toInt32) :: st) w Q) : gF g d Y pc ls (.int x :: st) w Q := by
  refine k.pure fun r w' h => ?_
  intro p e R s m args below meth c n0 u0 H locs lsA C h1 h2 h3 h4 h5 h6 h7
  exact lv_i2b C.1 C.2.1 hd rfl (h p e R s m args below meth c n0 u0 H locs lsA C h1 h2 h3 h4 h5 h6 h7)
theorem g_i2s {g : GE} {d : Nat} {Y : GM} {pc : Nat} {ls : List (Nat × Value)} {st : List Value} {w : GW} {Q : Option Value → GW → Prop} {x : Int32} (hd : decode Y.2.1 pc = .ok (.i2s, 1)) (k : gF g d Y (pc + 1) ls (.int (x.toInt16.toInt32) :: st) w Q) : gF g d Y pc ls (.int x :: st) w Q := by
  refine k.pure fun r w' h => ?_
  intro p e R s m args below meth c n0 u0 H locs lsA C h1 h2 h3 h4 h5 h6 h7
  exact lv_i2s C.1 C.2.1 hd rfl (h p e R s m args below meth c n0 u0 H locs lsA C h1 h2 h3 h4 h5 h6 h7)
theorem g_i2c {g : GE} {d : Nat} {Y : GM} {pc : Nat} {ls : List (Nat × Value)} {st : List Value} {w : GW} {Q : Option Value → GW → Prop} {x : Int32} (hd : decode Y.2.1 pc = .ok (.i2c, 1)) (k : gF g d Y (pc + 1) ls (.int ((x.toUInt32 % 65536).toInt32) :: st) w Q) : gF g d Y pc ls (.int x :: st) w Q := by
  refine k.pure fun r w' h => ?_
  intro p e R s m args below meth c n0 u0 H locs lsA C h1 h2 h3 h4 h5 h6 h7
  exact lv_i2c C.1 C.2.1 hd rfl (h p e R s m args below meth c n0 u0 H locs lsA C h1 h2 h3 h4 h5 h6 h7)
theorem g_fadd {g : GE} {d : Nat} {Y : GM} {pc : Nat} {ls : List (Nat × Value)} {st : List Value} {w : GW} {Q : Option Value → GW → Prop} {x y : UInt32} (hd : decode Y.2.1 pc = .ok (.fadd, 1)) (hne : vf_n32 (FP.fadd x y)) (k : gF g d Y (pc + 1) ls (.float (FP.fadd x y) :: st) w Q) : gF g d Y pc ls (.float y :: .float x :: st) w Q := by
  refine k.pure fun r w' h => ?_
  intro p e R s m args below meth c n0 u0 H locs lsA C h1 h2 h3 h4 h5 h6 h7
  exact lv_fadd C.1 C.2.1 hd hne (h p e R s m args below meth c n0 u0 H locs lsA C h1 h2 h3 h4 h5 h6 h7)
theorem g_fsub {g : GE} {d : Nat} {Y : GM} {pc : Nat} {ls : List (Nat × Value)} {st : List Value} {w : GW} {Q : Option Value → GW → Prop} {x y : UInt32} (hd : decode Y.2.1 pc = .ok (.fsub, 1)) (hne : vf_n32 (FP.fsub x y)) (k : gF g d Y (pc + 1) ls (.float (FP.fsub x y) :: st) w Q) : gF g d Y pc ls (.float y :: .float x :: st) w Q := by
  refine k.pure fun r w' h => ?_
  intro p e R s m args below meth c n0 u0 H locs lsA C h1 h2 h3 h4 h5 h6 h7
  exact lv_fsub C.1 C.2.1 hd hne (h p e R s m args below meth c n0 u0 H locs lsA C h1 h2 h3 h4 h5 h6 h7)
theorem g_fmul {g : GE} {d : Nat} {Y : GM} {pc : Nat} {ls : List (Nat × Value)} {st : List Value} {w : GW} {Q : Option Value → GW → Prop} {x y : UInt32} (hd : decode Y.2.1 pc = .ok (.fmul, 1)) (hne : vf_n32 (FP.fmul x y)) (k : gF g d Y (pc + 1) ls (.float (FP.fmul x y) :: st) w Q) : gF g d Y pc ls (.float y :: .float x :: st) w Q := by
  refine k.pure fun r w' h => ?_
  intro p e R s m args below meth c n0 u0 H locs lsA C h1 h2 h3 h4 h5 h6 h7
  exact lv_fmul C.1 C.2.1 hd hne (h p e R s m args below meth c n0 u0 H locs lsA C h1 h2 h3 h4 h5 h6 h7)
theorem g_fdiv {g : GE} {d : Nat} {Y : GM} {pc : Nat} {ls : List (Nat × Value)} {st : List Value} {w : GW} {Q : Option Value → GW → Prop} {x y : UInt32} (hd : decode Y.2.1 pc = .ok (.fdiv, 1)) (hne : vf_n32 (FP.fdiv x y)) (k : gF g d Y (pc + 1) ls (.float (FP.fdiv x y) :: st) w Q) : gF g d Y pc ls (.float y :: .float x :: st) w Q := by
  refine k.pure fun r w' h => ?_
  intro p e R s m args below meth c n0 u0 H locs lsA C h1 h2 h3 h4 h5 h6 h7
  exact lv_fdiv C.1 C.2.1 hd hne (h p e R s m args below meth c n0 u0 H locs lsA C h1 h2 h3 h4 h5 h6 h7)
theorem g_frem {g : GE} {d : Nat} {Y : GM} {pc : Nat} {ls : List (Nat × Value)} {st : List Value} {w : GW} {Q : Option Value → GW → Prop} {x y : UInt32} (hd : decode Y.2.1 pc = .ok (.frem, 1)) (hne : vf_n32 (FP.frem x y)) (k : gF g d Y (pc + 1) ls (.float (FP.frem x y) :: st) w Q) : gF g d Y pc ls (.float y :: .float x :: st) w Q := by
  refine k.pure fun r w' h => ?_
  intro p e R s m args below meth c n0 u0 H locs lsA C h1 h2 h3 h4 h5 h6 h7
  exact lv_frem C.1 C.2.1 hd hne (h p e R s m args below meth c n0 u0 H locs lsA C h1 h2 h3 h4 h5 h6 h7)
theorem g_dadd {g : GE} {d : Nat} {Y : GM} {pc : Nat} {ls : List (Nat × Value)} {st : List Value} {w : GW} {Q : Option Value → GW → Prop} {x y : UInt64} (hd : decode Y.2.1 pc = .ok (.dadd, 1)) (hne : vf_n64 (FP.dadd x y)) (k : gF g d Y (pc + 1) ls (.double (FP.dadd x y) :: st) w Q) : gF g d Y pc ls (.double y :: .double x :: st) w Q := by
  refine k.pure fun r w' h => ?_
  intro p e R s m args below meth c n0 u0 H locs lsA C h1 h2 h3 h4 h5 h6 h7
  exact lv_dadd C.1 C.2.1 hd hne (h p e R s m args below meth c n0 u0 H locs lsA C h1 h2 h3 h4 h5 h6 h7)
theorem g_dsub {g : GE} {d : Nat} {Y : GM} {pc : Nat} {ls : List (Nat × Value)} {st : List Value} {w : GW} {Q : Option Value → GW → Prop} {x y : UInt64} (hd : decode Y.2.1 pc = .ok (.dsub, 1)) (hne : vf_n64 (FP.dsub x y)) (k : gF g d Y (pc + 1) ls (.double (FP.dsub x y) :: st) w Q) : gF g d Y pc ls (.double y :: .double x :: st) w Q := by
  refine k.pure fun r w' h => ?_
  intro p e R s m args below meth c n0 u0 H locs lsA C h1 h2 h3 h4 h5 h6 h7
  exact lv_dsub C.1 C.2.1 hd hne (h p e R s m args below meth c n0 u0 H locs lsA C h1 h2 h3 h4 h5 h6 h7)
theorem g_dmul {g : GE} {d : Nat} {Y : GM} {pc : Nat} {ls : List (Nat × Value)} {st : List Value} {w : GW} {Q : Option Value → GW → Prop} {x y : UInt64} (hd : decode Y.2.1 pc = .ok (.dmul, 1)) (hne : vf_n64 (FP.dmul x y)) (k : gF g d Y (pc + 1) ls (.double (FP.dmul x y) :: st) w Q) : gF g d Y pc ls (.double y :: .double x :: st) w Q := by
  refine k.pure fun r w' h => ?_
  intro p e R s m args below meth c n0 u0 H locs lsA C h1 h2 h3 h4 h5 h6 h7
  exact lv_dmul C.1 C.2.1 hd hne (h p e R s m args below meth c n0 u0 H locs lsA C h1 h2 h3 h4 h5 h6 h7)
theorem g_ddiv {g : GE} {d : Nat} {Y : GM} {pc : Nat} {ls : List (Nat × Value)} {st : List Value} {w : GW} {Q : Option Value → GW → Prop} {x y : UInt64} (hd : decode Y.2.1 pc = .ok (.ddiv, 1)) (hne : vf_n64 (FP.ddiv x y)) (k : gF g d Y (pc + 1) ls (.double (FP.ddiv x y) :: st) w Q) : gF g d Y pc ls (.double y :: .double x :: st) w Q := by
  refine k.pure fun r w' h => ?_
  intro p e R s m args below meth c n0 u0 H locs lsA C h1 h2 h3 h4 h5 h6 h7
  exact lv_ddiv C.1 C.2.1 hd hne (h p e R s m args below meth c n0 u0 H locs lsA C h1 h2 h3 h4 h5 h6 h7)
theorem g_drem {g : GE} {d : Nat} {Y : GM} {pc : Nat} {ls : List (Nat × Value)} {st : List Value} {w : GW} {Q : Option Value → GW → Prop} {x y : UInt64} (hd : decode Y.2.1 pc = .ok (.drem, 1)) (hne : vf_n64 (FP.drem x y)) (k : gF g d Y (pc + 1) ls (.double (FP.drem x y) :: st) w Q) : gF g d Y pc ls (.double y :: .double x :: st) w Q := by
  refine k.pure fun r w' h => ?_
  intro p e R s m args below meth c n0 u0 H locs lsA C h1 h2 h3 h4 h5 h6 h7
  exact lv_drem C.1 C.2.1 hd hne (h p e R s m args below meth c n0 u0 H locs lsA C h1 h2 h3 h4 h5 h6 h7)
theorem g_dneg {g : GE} {d : Nat} {Y : GM} {pc : Nat} {ls : List (Nat × Value)} {st : List Value} {w : GW} {Q : Option Value → GW → Prop} {x : UInt64} (hd : decode Y.2.1 pc = .ok (.dneg, 1)) (k : gF g d Y (pc + 1) ls (.double (FP.dneg x) :: st) w Q) : gF g d Y pc ls (.double x :: st) w Q := by
  refine k.pure fun r w' h => ?_
  intro p e R s m args below meth c n0 u0 H locs lsA C h1 h2 h3 h4 h5 h6 h7
  exact lv_dneg C.1 C.2.1 hd (h p e R s m args below meth c n0 u0 H locs lsA C h1 h2 h3 h4 h5 h6 h7)
theorem g_fcmp {g : GE} {d : Nat} {Y : GM} {pc : Nat} {ls : List (Nat × Value)} {st : List Value} {w : GW} {Q : Option Value → GW → Prop} {x y : UInt32} {op : CmpOp} (hd : decode Y.2.1 pc = .ok (.fcmp op, 1)) (k : gF g d Y (pc + 1) ls (.int (Op.cmpValue (FP.fcmp x y) op) :: st) w Q) : gF g d Y pc ls (.float y :: .float x :: st) w Q := by
  refine k.pure fun r w' h => ?_
  intro p e R s m args below meth c n0 u0 H locs lsA C h1 h2 h3 h4 h5 h6 h7
  exact lv_fcmp C.1 C.2.1 hd (h p e R s m args below meth c n0 u0 H locs lsA C h1 h2 h3 h4 h5 h6 h7)
theorem g_dcmp {g : GE} {d : Nat} {Y : GM} {pc : Nat} {ls : List (Nat × Value)} {st : List Value} {w : GW} {Q : Option Value → GW → Prop} {x y : UInt64} {op : CmpOp} (hd : decode Y.2.1 pc = .ok (.dcmp op, 1)) (k : gF g d Y (pc + 1) ls (.int (Op.cmpValue (FP.dcmp x y) op) :: st) w Q) : gF g d Y pc ls (.double y :: .double x :: st) w Q := by
  refine k.pure fun r w' h => ?_
  intro p e R s m args below meth c n0 u0 H locs lsA C h1 h2 h3 h4 h5 h6 h7
  exact lv_dcmp C.1 C.2.1 hd (h p e R s m args below meth c n0 u0 H locs lsA C h1 h2 h3 h4 h5 h6 h7)
theorem g_i2d {g : GE} {d : Nat} {Y : GM} {pc : Nat} {ls : List (Nat × Value)} {st : List Value} {w : GW} {Q : Option Value → GW → Prop} {x : Int32} (hd : decode Y.2.1 pc = .ok (.i2d, 1)) (k : gF g d Y (pc + 1) ls (.double (FP.i2d x) :: st) w Q) : gF g d Y pc ls (.int x :: st) w Q := by
  refine k.pure fun r w' h => ?_
  intro p e R s m args below meth c n0 u0 H locs lsA C h1 h2 h3 h4 h5 h6 h7
  exact lv_i2d C.1 C.2.1 hd (h p e R s m args below meth c n0 u0 H locs lsA C h1 h2 h3 h4 h5 h6 h7)
theorem g_l2d {g : GE} {d : Nat} {Y : GM} {pc : Nat} {ls : List (Nat × Value)} {st : List Value} {w : GW} {Q : Option Value → GW → Prop} {x : Int64} (hd : decode Y.2.1 pc = .ok (.l2d, 1)) (k : gF g d Y (pc + 1) ls (.double (FP.l2d x) :: st) w Q) : gF g d Y pc ls (.long x :: st) w Q := by
  refine k.pure fun r w' h => ?_
  intro p e R s m args below meth c n0 u0 H locs lsA C h1 h2 h3 h4 h5 h6 h7
  exact lv_l2d C.1 C.2.1 hd (h p e R s m args below meth c n0 u0 H locs lsA C h1 h2 h3 h4 h5 h6 h7)
theorem g_d2i {g : GE} {d : Nat} {Y : GM} {pc : Nat} {ls : List (Nat × Value)} {st : List Value} {w : GW} {Q : Option Value → GW → Prop} {x : UInt64} (hd : decode Y.2.1 pc = .ok (.d2i, 1)) (k : gF g d Y (pc + 1) ls (.int (FP.d2i x) :: st) w Q) : gF g d Y pc ls (.double x :: st) w Q := by
  refine k.pure fun r w' h => ?_
  intro p e R s m args below meth c n0 u0 H locs lsA C h1 h2 h3 h4 h5 h6 h7
  exact lv_d2i C.1 C.2.1 hd (h p e R s m args below meth c n0 u0 H locs lsA C h1 h2 h3 h4 h5 h6 h7)
theorem g_d2l {g : GE} {d : Nat} {Y : GM} {pc : Nat} {ls : List (Nat × Value)} {st : List Value} {w : GW} {Q : Option Value → GW → Prop} {x : UInt64} (hd : decode Y.2.1 pc = .ok (.d2l, 1)) (k : gF g d Y (pc + 1) ls (.long (FP.d2l x) :: st) w Q) : gF g d Y pc ls (.double x :: st) w Q := by
  refine k.pure fun r w' h => ?_
  intro p e R s m args below meth c n0 u0 H locs lsA C h1 h2 h3 h4 h5 h6 h7
  exact lv_d2l C.1 C.2.1 hd (h p e R s m args below meth c n0 u0 H locs lsA C h1 h2 h3 h4 h5 h6 h7)
theorem g_i2l {g : GE} {d : Nat} {Y : GM} {pc : Nat} {ls : List (Nat × Value)} {st : List Value} {w : GW} {Q : Option Value → GW → Prop} {x : Int32} (hd : decode Y.2.1 pc = .ok (.i2l, 1)) (k : gF g d Y (pc + 1) ls (.long x.toInt64 :: st) w Q) : gF g d Y pc ls (.int x :: st) w Q := by
  refine k.pure fun r w' h => ?_
  intro p e R s m args below meth c n0 u0 H locs lsA C h1 h2 h3 h4 h5 h6 h7
  exact lv_i2l C.1 C.2.1 hd rfl (h p e R s m args below meth c n0 u0 H locs lsA C h1 h2 h3 h4 h5 h6 h7)
theorem g_l2i {g : GE} {d : Nat} {Y : GM} {pc : Nat} {ls : List (Nat × Value)} {st : List Value} {w : GW} {Q : Option Value → GW → Prop} {x : Int64} (hd : decode Y.2.1 pc = .ok (.l2i, 1)) (k : gF g d Y (pc + 1) ls (.int x.toInt32 :: st) w Q) : gF g d Y pc ls (.long x :: st) w Q := by
  refine k.pure fun r w' h => ?_
  intro p e R s m args below meth c n0 u0 H locs lsA C h1 h2 h3 h4 h5 h6 h7
  exact lv_l2i C.1 C.2.1 hd rfl (h p e R s m args below meth c n0 u0 H locs lsA C h1 h2 h3 h4 h5 h6 h7)
theorem g_f2l {g : GE} {d : Nat} {Y : GM} {pc : Nat} {ls : List (Nat × Value)} {st : List Value} {w : GW} {Q : Option Value → GW → Prop} {x : UInt32} (hd : decode Y.2.1 pc = .ok (.f2l, 1)) (k : gF g d Y (pc + 1) ls (.long (FP.f2l x) :: st) w Q) : gF g d Y pc ls (.float x :: st) w Q := by
  refine k.pure fun r w' h => ?_
  intro p e R s m args below meth c n0 u0 H locs lsA C h1 h2 h3 h4 h5 h6 h7
  exact lv_f2l C.1 C.2.1 hd (h p e R s m args below meth c n0 u0 H locs lsA C h1 h2 h3 h4 h5 h6 h7)
theorem g_f2d {g : GE} {d : Nat} {Y : GM} {pc : Nat} {ls : List (Nat × Value)} {st : List Value} {w : GW} {Q : Option Value → GW → Prop} {x : UInt32} (hd : decode Y.2.1 pc = .ok (.f2d, 1)) (hne : vf_n64 (FP.f2d x)) (k : gF g d Y (pc + 1) ls (.double (FP.f2d x) :: st) w Q) : gF g d Y pc ls (.float x :: st) w Q := by
  refine k.pure fun r w' h => ?_
  intro p e R s m args below meth c n0 u0 H locs lsA C h1 h2 h3 h4 h5 h6 h7
  exact lv_f2d C.1 C.2.1 hd hne (h p e R s m args below meth c n0 u0 H locs lsA C h1 h2 h3 h4 h5 h6 h7)
theorem g_d2f {g : GE} {d : Nat} {Y : GM} {pc : Nat} {ls : List (Nat × Value)} {st : List Value} {w : GW} {Q : Option Value → GW → Prop} {x : UInt64} (hd : decode Y.2.1 pc = .ok (.d2f, 1)) (hne : vf_n32 (FP.d2f x)) (k : gF g d Y (pc + 1) ls (.float (FP.d2f x) :: st) w Q) : gF g d Y pc ls (.double x :: st) w Q := by
  refine k.pure fun r w' h => ?_
  intro p e R s m args below meth c n0 u0 H locs lsA C h1 h2 h3 h4 h5 h6 h7
  exact lv_d2f C.1 C.2.1 hd hne (h p e R s m args below meth c n0 u0 H locs lsA C h1 h2 h3 h4 h5 h6 h7)
theorem g_fconst0 {g : GE} {d : Nat} {Y : GM} {pc : Nat} {ls : List (Nat × Value)} {st : List Value} {w : GW} {Q : Option Value → GW → Prop}  (hd : decode Y.2.1 pc = .ok (.fconst 0, 1)) (k : gF g d Y (pc + 1) ls (.float FP.fconst0 :: st) w Q) : gF g d Y pc ls (st) w Q := by
  refine k.pure fun r w' h => ?_
  intro p e R s m args below meth c n0 u0 H locs lsA C h1 h2 h3 h4 h5 h6 h7
  exact lv_fconst0 C.1 C.2.1 hd (h p e R s m args below meth c n0 u0 H locs lsA C h1 h2 h3 h4 h5 h6 h7)
theorem g_dconst0 {g : GE} {d : Nat} {Y : GM} {pc : Nat} {ls : List (Nat × Value)} {st : List Value} {w : GW} {Q : Option Value → GW → Prop}  (hd : decode Y.2.1 pc = .ok (.dconst 0, 1)) (k : gF g d Y (pc + 1) ls (.double FP.dconst0 :: st) w Q) : gF g d Y pc ls (st) w Q := by
  refine k.pure fun r w' h => ?_
  intro p e R s m args below meth c n0 u0 H locs lsA C h1 h2 h3 h4 h5 h6 h7
  exact lv_dconst0 C.1 C.2.1 hd (h p e R s m args below meth c n0 u0 H locs lsA C h1 h2 h3 h4 h5 h6 h7)
theorem g_dconst1 {g : GE} {d : Nat} {Y : GM} {pc : Nat} {ls : List (Nat × Value)} {st : List Value} {w : GW} {Q : Option Value → GW → Prop}  (hd : decode Y.2.1 pc = .ok (.dconst 1, 1)) (k : gF g d Y (pc + 1) ls (.double FP.dconst1 :: st) w Q) : gF g d Y pc ls (st) w Q := by
  refine k.pure fun r w' h => ?_
  intro p e R s m args below meth c n0 u0 H locs lsA C h1 h2 h3 h4 h5 h6 h7
  exact lv_dconst1 C.1 C.2.1 hd (h p e R s m args below meth c n0 u0 H locs lsA C h1 h2 h3 h4 h5 h6 h7)
theorem g_null {g : GE} {d : Nat} {Y : GM} {pc : Nat} {ls : List (Nat × Value)} {st : List Value} {w : GW} {Q : Option Value → GW → Prop}  (hd : decode Y.2.1 pc = .ok (.aconst_null, 1)) (k : gF g d Y (pc + 1) ls (.null :: st) w Q) : gF g d Y pc ls (st) w Q := by
  refine k.pure fun r w' h => ?_
  intro p e R s m args below meth c n0 u0 H locs lsA C h1 h2 h3 h4 h5 h6 h7
  exact lv_null C.1 C.2.1 hd (h p e R s m args below meth c n0 u0 H locs lsA C h1 h2 h3 h4 h5 h6 h7)
theorem g_dup {g : GE} {d : Nat} {Y : GM} {pc : Nat} {ls : List (Nat × Value)} {st : List Value} {w : GW} {Q : Option Value → GW → Prop} {va : Value} (hd : decode Y.2.1 pc = .ok (.dup, 1)) (hva : va.category = 1) (k : gF g d Y (pc + 1) ls (va :: va :: st) w Q) : gF g d Y pc ls (va :: st) w Q := by
  refine k.pure fun r w' h => ?_
  intro p e R s m args below meth c n0 u0 H locs lsA C h1 h2 h3 h4 h5 h6 h7
  exact lv_dup C.1 C.2.1 hd hva (h p e R s m args below meth c n0 u0 H locs lsA C h1 h2 h3 h4 h5 h6 h7)
theorem g_dup2 {g : GE} {d : Nat} {Y : GM} {pc : Nat} {ls : List (Nat × Value)} {st : List Value} {w : GW} {Q : Option Value → GW → Prop} {va vb : Value} (hd : decode Y.2.1 pc = .ok (.dup2, 1)) (hva : va.category = 1) (hvb : vb.category = 1) (k : gF g d Y (pc + 1) ls (va :: vb :: va :: vb :: st) w Q) : gF g d Y pc ls (va :: vb :: st) w Q := by
  refine k.pure fun r w' h => ?_
  intro p e R s m args below meth c n0 u0 H locs lsA C h1 h2 h3 h4 h5 h6 h7
  exact lv_dup2_11 C.1 C.2.1 hd hva hvb (h p e R s m args below meth c n0 u0 H locs lsA C h1 h2 h3 h4 h5 h6 h7)
theorem g_pop {g : GE} {d : Nat} {Y : GM} {pc : Nat} {ls : List (Nat × Value)} {st : List Value} {w : GW} {Q : Option Value → GW → Prop} {va : Value} (hd : decode Y.2.1 pc = .ok (.pop, 1)) (hva : va.category = 1) (k : gF g d Y (pc + 1) ls (st) w Q) : gF g d Y pc ls (va :: st) w Q := by
  refine k.pure fun r w' h => ?_
  intro p e R s m args below meth c n0 u0 H locs lsA C h1 h2 h3 h4 h5 h6 h7
  exact lv_pop C.1 C.2.1 hd hva (h p e R s m args below meth c n0 u0 H locs lsA C h1 h2 h3 h4 h5 h6 h7)
theorem g_ldc {g : GE} {d : Nat} {Y : GM} {pc : Nat} {ls : List (Nat × Value)} {st : List Value} {w : GW} {Q : Option Value → GW → Prop} {i : Nat} {v : Int32} (hd : decode Y.2.1 pc = .ok (.ldc i, 2)) (hc : Cond.constant Y.1.cls i v ∈ gT) (k : gF g d Y (pc + 2) ls (.int v :: st) w Q) : gF g d Y pc ls (st) w Q := by
  refine k.pure fun r w' h => ?_
  intro p e R s m args below meth c n0 u0 H locs lsA C h1 h2 h3 h4 h5 h6 h7
  exact lv_ldc C.1 C.2.1 C.2.2.2.1 (C.2.2.2.2.1 _ hc) hd (h p e R s m args below meth c n0 u0 H locs lsA C h1 h2 h3 h4 h5 h6 h7)
theorem g_ldc2d {g : GE} {d : Nat} {Y : GM} {pc : Nat} {ls : List (Nat × Value)} {st : List Value} {w : GW} {Q : Option Value → GW → Prop} {i : Nat} {v : UInt64} (hd : decode Y.2.1 pc = .ok (.ldc2_w i, 3)) (hc : Cond.constantDouble Y.1.cls i v ∈ gT) (k : gF g d Y (pc + 3) ls (.double v :: st) w Q) : gF g d Y pc ls (st) w Q := by
  refine k.pure fun r w' h => ?_
  intro p e R s m args below meth c n0 u0 H locs lsA C h1 h2 h3 h4 h5 h6 h7
  exact lv_ldc2d C.1 C.2.1 C.2.2.2.1 (C.2.2.2.2.1 _ hc) hd (h p e R s m args below meth c n0 u0 H locs lsA C h1 h2 h3 h4 h5 h6 h7)
theorem g_ldc2l {g : GE} {d : Nat} {Y : GM} {pc : Nat} {ls : List (Nat × Value)} {st : List Value} {w : GW} {Q : Option Value → GW → Prop} {i : Nat} {v : Int64} (hd : decode Y.2.1 pc = .ok (.ldc2_w i, 3)) (hc : Cond.constantLong Y.1.cls i v ∈ gT) (k : gF g d Y (pc + 3) ls (.long v :: st) w Q) : gF g d Y pc ls (st) w Q := by
  refine k.pure fun r w' h => ?_
  intro p e R s m args below meth c n0 u0 H locs lsA C h1 h2 h3 h4 h5 h6 h7
  exact lv_ldc2 C.1 C.2.1 C.2.2.2.1 (C.2.2.2.2.1 _ hc) hd (h p e R s m args below meth c n0 u0 H locs lsA C h1 h2 h3 h4 h5 h6 h7)
theorem g_lk {ls : List (Nat × Value)} {lsA : Array Slot} {nL i : Nat} {v : Value} (h : lv_has lsA nL ls) (hl : ls.lookup i = some v) : lsA[i]? = some (.val v) := by
  refine h.2.2 (i, v) ?_
  induction ls with
  | nil => cases hl
  | cons q t ih =>
    obtain ⟨j, u⟩ := q
    by_cases hj : i = j
    · subst hj
      simp [List.lookup] at hl
      subst hl
      exact List.mem_cons_self
    · have hj' : (i == j) = false := by simp [hj]
      simp only [List.lookup, hj'] at hl
      exact List.mem_cons_of_mem _ (ih ⟨h.1, h.2.1, fun q hq => h.2.2 q (List.mem_cons_of_mem _ hq)⟩ hl)
theorem g_iload_n {g : GE} {d : Nat} {Y : GM} {pc : Nat} {ls : List (Nat × Value)} {st : List Value} {w : GW} {Q : Option Value → GW → Prop} {i : Fin 4} {x : Int32} (hd : decode Y.2.1 pc = .ok (.iload_n i, 1)) (hl : ls.lookup (i : Nat) = some (.int x)) (k : gF g d Y (pc + 1) ls (.int x :: st) w Q) : gF g d Y pc ls st w Q := by
  refine k.pure fun r w' h => ?_
  intro p e R s m args below meth c n0 u0 H locs lsA C h1 h2 h3 h4 h5 h6 h7
  exact lv_iload_n C.1 C.2.1 hd rfl (g_lk h7 hl) (h p e R s m args below meth c n0 u0 H locs lsA C h1 h2 h3 h4 h5 h6 h7)
theorem g_iload {g : GE} {d : Nat} {Y : GM} {pc : Nat} {ls : List (Nat × Value)} {st : List Value} {w : GW} {Q : Option Value → GW → Prop} {i : Nat} {x : Int32} (hd : decode Y.2.1 pc = .ok (.iload i, 2)) (hl : ls.lookup i = some (.int x)) (k : gF g d Y (pc + 2) ls (.int x :: st) w Q) : gF g d Y pc ls st w Q := by
  refine k.pure fun r w' h => ?_
  intro p e R s m args below meth c n0 u0 H locs lsA C h1 h2 h3 h4 h5 h6 h7
  exact lv_iload C.1 C.2.1 hd (g_lk h7 hl) (h p e R s m args below meth c n0 u0 H locs lsA C h1 h2 h3 h4 h5 h6 h7)
theorem g_lload_n {g : GE} {d : Nat} {Y : GM} {pc : Nat} {ls : List (Nat × Value)} {st : List Value} {w : GW} {Q : Option Value → GW → Prop} {i : Fin 4} {x : Int64} (hd : decode Y.2.1 pc = .ok (.lload_n i, 1)) (hl : ls.lookup (i : Nat) = some (.long x)) (k : gF g d Y (pc + 1) ls (.long x :: st) w Q) : gF g d Y pc ls st w Q := by
  refine k.pure fun r w' h => ?_
  intro p e R s m args below meth c n0 u0 H locs lsA C h1 h2 h3 h4 h5 h6 h7
  exact lv_lload_n C.1 C.2.1 hd rfl (g_lk h7 hl) (h p e R s m args below meth c n0 u0 H locs lsA C h1 h2 h3 h4 h5 h6 h7)
theorem g_lload {g : GE} {d : Nat} {Y : GM} {pc : Nat} {ls : List (Nat × Value)} {st : List Value} {w : GW} {Q : Option Value → GW → Prop} {i : Nat} {x : Int64} (hd : decode Y.2.1 pc = .ok (.lload i, 2)) (hl : ls.lookup i = some (.long x)) (k : gF g d Y (pc + 2) ls (.long x :: st) w Q) : gF g d Y pc ls st w Q := by
  refine k.pure fun r w' h => ?_
  intro p e R s m args below meth c n0 u0 H locs lsA C h1 h2 h3 h4 h5 h6 h7
  exact lv_lload C.1 C.2.1 hd (g_lk h7 hl) (h p e R s m args below meth c n0 u0 H locs lsA C h1 h2 h3 h4 h5 h6 h7)
theorem g_fload_n {g : GE} {d : Nat} {Y : GM} {pc : Nat} {ls : List (Nat × Value)} {st : List Value} {w : GW} {Q : Option Value → GW → Prop} {i : Fin 4} {x : UInt32} (hd : decode Y.2.1 pc = .ok (.fload_n i, 1)) (hl : ls.lookup (i : Nat) = some (.float x)) (k : gF g d Y (pc + 1) ls (.float x :: st) w Q) : gF g d Y pc ls st w Q := by
  refine k.pure fun r w' h => ?_
  intro p e R s m args below meth c n0 u0 H locs lsA C h1 h2 h3 h4 h5 h6 h7
  exact lv_fload_n C.1 C.2.1 hd rfl (g_lk h7 hl) (h p e R s m args below meth c n0 u0 H locs lsA C h1 h2 h3 h4 h5 h6 h7)
theorem g_fload {g : GE} {d : Nat} {Y : GM} {pc : Nat} {ls : List (Nat × Value)} {st : List Value} {w : GW} {Q : Option Value → GW → Prop} {i : Nat} {x : UInt32} (hd : decode Y.2.1 pc = .ok (.fload i, 2)) (hl : ls.lookup i = some (.float x)) (k : gF g d Y (pc + 2) ls (.float x :: st) w Q) : gF g d Y pc ls st w Q := by
  refine k.pure fun r w' h => ?_
  intro p e R s m args below meth c n0 u0 H locs lsA C h1 h2 h3 h4 h5 h6 h7
  exact lv_fload C.1 C.2.1 hd (g_lk h7 hl) (h p e R s m args below meth c n0 u0 H locs lsA C h1 h2 h3 h4 h5 h6 h7)
theorem g_dload_n {g : GE} {d : Nat} {Y : GM} {pc : Nat} {ls : List (Nat × Value)} {st : List Value} {w : GW} {Q : Option Value → GW → Prop} {i : Fin 4} {x : UInt64} (hd : decode Y.2.1 pc = .ok (.dload_n i, 1)) (hl : ls.lookup (i : Nat) = some (.double x)) (k : gF g d Y (pc + 1) ls (.double x :: st) w Q) : gF g d Y pc ls st w Q := by
  refine k.pure fun r w' h => ?_
  intro p e R s m args below meth c n0 u0 H locs lsA C h1 h2 h3 h4 h5 h6 h7
  exact lv_dload_n C.1 C.2.1 hd rfl (g_lk h7 hl) (h p e R s m args below meth c n0 u0 H locs lsA C h1 h2 h3 h4 h5 h6 h7)
theorem g_dload {g : GE} {d : Nat} {Y : GM} {pc : Nat} {ls : List (Nat × Value)} {st : List Value} {w : GW} {Q : Option Value → GW → Prop} {i : Nat} {x : UInt64} (hd : decode Y.2.1 pc = .ok (.dload i, 2)) (hl : ls.lookup i = some (.double x)) (k : gF g d Y (pc + 2) ls (.double x :: st) w Q) : gF g d Y pc ls st w Q := by
  refine k.pure fun r w' h => ?_
  intro p e R s m args below meth c n0 u0 H locs lsA C h1 h2 h3 h4 h5 h6 h7
  exact lv_dload C.1 C.2.1 hd (g_lk h7 hl) (h p e R s m args below meth c n0 u0 H locs lsA C h1 h2 h3 h4 h5 h6 h7)
theorem g_aload_n {g : GE} {d : Nat} {Y : GM} {pc : Nat} {ls : List (Nat × Value)} {st : List Value} {w : GW} {Q : Option Value → GW → Prop} {i : Fin 4} {x : Nat} (hd : decode Y.2.1 pc = .ok (.aload_n i, 1)) (hl : ls.lookup (i : Nat) = some (.ref x)) (k : gF g d Y (pc + 1) ls (.ref x :: st) w Q) : gF g d Y pc ls st w Q := by
  refine k.pure fun r w' h => ?_
  intro p e R s m args below meth c n0 u0 H locs lsA C h1 h2 h3 h4 h5 h6 h7
  exact lv_aload_n C.1 C.2.1 hd rfl (g_lk h7 hl) (h p e R s m args below meth c n0 u0 H locs lsA C h1 h2 h3 h4 h5 h6 h7)
theorem g_aload {g : GE} {d : Nat} {Y : GM} {pc : Nat} {ls : List (Nat × Value)} {st : List Value} {w : GW} {Q : Option Value → GW → Prop} {i : Nat} {x : Nat} (hd : decode Y.2.1 pc = .ok (.aload i, 2)) (hl : ls.lookup i = some (.ref x)) (k : gF g d Y (pc + 2) ls (.ref x :: st) w Q) : gF g d Y pc ls st w Q := by
  refine k.pure fun r w' h => ?_
  intro p e R s m args below meth c n0 u0 H locs lsA C h1 h2 h3 h4 h5 h6 h7
  exact lv_aload C.1 C.2.1 hd (g_lk h7 hl) (h p e R s m args below meth c n0 u0 H locs lsA C h1 h2 h3 h4 h5 h6 h7)
theorem g_aload_nN {g : GE} {d : Nat} {Y : GM} {pc : Nat} {ls : List (Nat × Value)} {st : List Value} {w : GW} {Q : Option Value → GW → Prop} {i : Fin 4} (hd : decode Y.2.1 pc = .ok (.aload_n i, 1)) (hl : ls.lookup (i : Nat) = some .null) (k : gF g d Y (pc + 1) ls (.null :: st) w Q) : gF g d Y pc ls st w Q := by
  refine k.pure fun r w' h => ?_
  intro p e R s m args below meth c n0 u0 H locs lsA C h1 h2 h3 h4 h5 h6 h7
  exact lv_aload_nN C.1 C.2.1 hd rfl (g_lk h7 hl) (h p e R s m args below meth c n0 u0 H locs lsA C h1 h2 h3 h4 h5 h6 h7)
theorem g_aloadN {g : GE} {d : Nat} {Y : GM} {pc : Nat} {ls : List (Nat × Value)} {st : List Value} {w : GW} {Q : Option Value → GW → Prop} {i : Nat} (hd : decode Y.2.1 pc = .ok (.aload i, 2)) (hl : ls.lookup i = some .null) (k : gF g d Y (pc + 2) ls (.null :: st) w Q) : gF g d Y pc ls st w Q := by
  refine k.pure fun r w' h => ?_
  intro p e R s m args below meth c n0 u0 H locs lsA C h1 h2 h3 h4 h5 h6 h7
  exact lv_aloadN C.1 C.2.1 hd (g_lk h7 hl) (h p e R s m args below meth c n0 u0 H locs lsA C h1 h2 h3 h4 h5 h6 h7)
def ls1 (ls : List (Nat × Value)) (i : Nat) (v : Value) : List (Nat × Value) := (i, v) :: ls.filter (fun q => !(q.1 == i) && !(q.1 + 1 == i && q.2.category == 2))
def ls2 (ls : List (Nat × Value)) (i : Nat) (v : Value) : List (Nat × Value) := (i, v) :: ls.filter (fun q => !(q.1 == i) && (!(q.1 == i + 1) && !(q.1 + 1 == i && q.2.category == 2)))
theorem g_istore_n {g : GE} {d : Nat} {Y : GM} {pc : Nat} {ls : List (Nat × Value)} {st : List Value} {w : GW} {Q : Option Value → GW → Prop} {i : Fin 4} {x : Int32} {lz : List (Nat × Value)} (hd : decode Y.2.1 pc = .ok (.istore_n i, 1)) (hi : (i : Nat) < Y.2.2.1) (hz : ls1 ls (i : Nat) (.int x) = lz) (k : gF g d Y (pc + 1) lz st w Q) : gF g d Y pc ls (.int x :: st) w Q := by
  refine k.pure fun r w' h => ?_
  intro p e R s m args below meth c n0 u0 H locs lsA C h1 h2 h3 h4 h5 h6 h7
  exact lv_istore_n C.1 C.2.1 hd rfl h7 hi hz (fun lsB h8 => h p e R s m args below meth c n0 u0 H locs lsB C h1 h2 h3 h4 h5 h6 h8)
theorem g_istore {g : GE} {d : Nat} {Y : GM} {pc : Nat} {ls : List (Nat × Value)} {st : List Value} {w : GW} {Q : Option Value → GW → Prop} {i : Nat} {x : Int32} {lz : List (Nat × Value)} (hd : decode Y.2.1 pc = .ok (.istore i, 2)) (hi : i < Y.2.2.1) (hz : ls1 ls i (.int x) = lz) (k : gF g d Y (pc + 2) lz st w Q) : gF g d Y pc ls (.int x :: st) w Q := by
  refine k.pure fun r w' h => ?_
  intro p e R s m args below meth c n0 u0 H locs lsA C h1 h2 h3 h4 h5 h6 h7
  exact lv_istore C.1 C.2.1 hd h7 hi hz (fun lsB h8 => h p e R s m args below meth c n0 u0 H locs lsB C h1 h2 h3 h4 h5 h6 h8)
theorem g_lstore_n {g : GE} {d : Nat} {Y : GM} {pc : Nat} {ls : List (Nat × Value)} {st : List Value} {w : GW} {Q : Option Value → GW → Prop} {i : Fin 4} {x : Int64} {lz : List (Nat × Value)} (hd : decode Y.2.1 pc = .ok (.lstore_n i, 1)) (hi : (i : Nat) + 1 < Y.2.2.1) (hz : ls2 ls (i : Nat) (.long x) = lz) (k : gF g d Y (pc + 1) lz st w Q) : gF g d Y pc ls (.long x :: st) w Q := by
  refine k.pure fun r w' h => ?_
  intro p e R s m args below meth c n0 u0 H locs lsA C h1 h2 h3 h4 h5 h6 h7
  exact lv_lstore_n C.1 C.2.1 hd rfl h7 hi hz (fun lsB h8 => h p e R s m args below meth c n0 u0 H locs lsB C h1 h2 h3 h4 h5 h6 h8)
theorem g_lstore {g : GE} {d : Nat} {Y : GM} {pc : Nat} {ls : List (Nat × Value)} {st : List Value} {w : GW} {Q : Option Value → GW → Prop} {i : Nat} {x : Int64} {lz : List (Nat × Value)} (hd : decode Y.2.1 pc = .ok (.lstore i, 2)) (hi : i + 1 < Y.2.2.1) (hz : ls2 ls i (.long x) = lz) (k : gF g d Y (pc + 2) lz st w Q) : gF g d Y pc ls (.long x :: st) w Q := by
  refine k.pure fun r w' h => ?_
  intro p e R s m args below meth c n0 u0 H locs lsA C h1 h2 h3 h4 h5 h6 h7
  exact lv_lstore C.1 C.2.1 hd h7 hi hz (fun lsB h8 => h p e R s m args below meth c n0 u0 H locs lsB C h1 h2 h3 h4 h5 h6 h8)
theorem g_fstore_n {g : GE} {d : Nat} {Y : GM} {pc : Nat} {ls : List (Nat × Value)} {st : List Value} {w : GW} {Q : Option Value → GW → Prop} {i : Fin 4} {x : UInt32} {lz : List (Nat × Value)} (hd : decode Y.2.1 pc = .ok (.fstore_n i, 1)) (hi : (i : Nat) < Y.2.2.1) (hz : ls1 ls (i : Nat) (.float x) = lz) (k : gF g d Y (pc + 1) lz st w Q) : gF g d Y pc ls (.float x :: st) w Q := by
  refine k.pure fun r w' h => ?_
  intro p e R s m args below meth c n0 u0 H locs lsA C h1 h2 h3 h4 h5 h6 h7
  exact lv_fstore_n C.1 C.2.1 hd rfl h7 hi hz (fun lsB h8 => h p e R s m args below meth c n0 u0 H locs lsB C h1 h2 h3 h4 h5 h6 h8)
theorem g_fstore {g : GE} {d : Nat} {Y : GM} {pc : Nat} {ls : List (Nat × Value)} {st : List Value} {w : GW} {Q : Option Value → GW → Prop} {i : Nat} {x : UInt32} {lz : List (Nat × Value)} (hd : decode Y.2.1 pc = .ok (.fstore i, 2)) (hi : i < Y.2.2.1) (hz : ls1 ls i (.float x) = lz) (k : gF g d Y (pc + 2) lz st w Q) : gF g d Y pc ls (.float x :: st) w Q := by
  refine k.pure fun r w' h => ?_
  intro p e R s m args below meth c n0 u0 H locs lsA C h1 h2 h3 h4 h5 h6 h7
  exact lv_fstore C.1 C.2.1 hd h7 hi hz (fun lsB h8 => h p e R s m args below meth c n0 u0 H locs lsB C h1 h2 h3 h4 h5 h6 h8)
theorem g_dstore_n {g : GE} {d : Nat} {Y : GM} {pc : Nat} {ls : List (Nat × Value)} {st : List Value} {w : GW} {Q : Option Value → GW → Prop} {i : Fin 4} {x : UInt64} {lz : List (Nat × Value)} (hd : decode Y.2.1 pc = .ok (.dstore_n i, 1)) (hi : (i : Nat) + 1 < Y.2.2.1) (hz : ls2 ls (i : Nat) (.double x) = lz) (k : gF g d Y (pc + 1) lz st w Q) : gF g d Y pc ls (.double x :: st) w Q := by
  refine k.pure fun r w' h => ?_
  intro p e R s m args below meth c n0 u0 H locs lsA C h1 h2 h3 h4 h5 h6 h7
  exact lv_dstore_n C.1 C.2.1 hd rfl h7 hi hz (fun lsB h8 => h p e R s m args below meth c n0 u0 H locs lsB C h1 h2 h3 h4 h5 h6 h8)
theorem g_dstore {g : GE} {d : Nat} {Y : GM} {pc : Nat} {ls : List (Nat × Value)} {st : List Value} {w : GW} {Q : Option Value → GW → Prop} {i : Nat} {x : UInt64} {lz : List (Nat × Value)} (hd : decode Y.2.1 pc = .ok (.dstore i, 2)) (hi : i + 1 < Y.2.2.1) (hz : ls2 ls i (.double x) = lz) (k : gF g d Y (pc + 2) lz st w Q) : gF g d Y pc ls (.double x :: st) w Q := by
  refine k.pure fun r w' h => ?_
  intro p e R s m args below meth c n0 u0 H locs lsA C h1 h2 h3 h4 h5 h6 h7
  exact lv_dstore C.1 C.2.1 hd h7 hi hz (fun lsB h8 => h p e R s m args below meth c n0 u0 H locs lsB C h1 h2 h3 h4 h5 h6 h8)
theorem g_astore_n {g : GE} {d : Nat} {Y : GM} {pc : Nat} {ls : List (Nat × Value)} {st : List Value} {w : GW} {Q : Option Value → GW → Prop} {i : Fin 4} {x : Nat} {lz : List (Nat × Value)} (hd : decode Y.2.1 pc = .ok (.astore_n i, 1)) (hi : (i : Nat) < Y.2.2.1) (hz : ls1 ls (i : Nat) (.ref x) = lz) (k : gF g d Y (pc + 1) lz st w Q) : gF g d Y pc ls (.ref x :: st) w Q := by
  refine k.pure fun r w' h => ?_
  intro p e R s m args below meth c n0 u0 H locs lsA C h1 h2 h3 h4 h5 h6 h7
  exact lv_astore_n C.1 C.2.1 hd rfl h7 hi hz (fun lsB h8 => h p e R s m args below meth c n0 u0 H locs lsB C h1 h2 h3 h4 h5 h6 h8)
theorem g_astore {g : GE} {d : Nat} {Y : GM} {pc : Nat} {ls : List (Nat × Value)} {st : List Value} {w : GW} {Q : Option Value → GW → Prop} {i : Nat} {x : Nat} {lz : List (Nat × Value)} (hd : decode Y.2.1 pc = .ok (.astore i, 2)) (hi : i < Y.2.2.1) (hz : ls1 ls i (.ref x) = lz) (k : gF g d Y (pc + 2) lz st w Q) : gF g d Y pc ls (.ref x :: st) w Q := by
  refine k.pure fun r w' h => ?_
  intro p e R s m args below meth c n0 u0 H locs lsA C h1 h2 h3 h4 h5 h6 h7
  exact lv_astore C.1 C.2.1 hd h7 hi hz (fun lsB h8 => h p e R s m args below meth c n0 u0 H locs lsB C h1 h2 h3 h4 h5 h6 h8)
theorem g_astore_nN {g : GE} {d : Nat} {Y : GM} {pc : Nat} {ls : List (Nat × Value)} {st : List Value} {w : GW} {Q : Option Value → GW → Prop} {i : Fin 4} {lz : List (Nat × Value)} (hd : decode Y.2.1 pc = .ok (.astore_n i, 1)) (hi : (i : Nat) < Y.2.2.1) (hz : ls1 ls (i : Nat) .null = lz) (k : gF g d Y (pc + 1) lz st w Q) : gF g d Y pc ls (.null :: st) w Q := by
  refine k.pure fun r w' h => ?_
  intro p e R s m args below meth c n0 u0 H locs lsA C h1 h2 h3 h4 h5 h6 h7
  exact lv_astore_nN C.1 C.2.1 hd rfl h7 hi hz (fun lsB h8 => h p e R s m args below meth c n0 u0 H locs lsB C h1 h2 h3 h4 h5 h6 h8)
theorem g_astoreN {g : GE} {d : Nat} {Y : GM} {pc : Nat} {ls : List (Nat × Value)} {st : List Value} {w : GW} {Q : Option Value → GW → Prop} {i : Nat} {lz : List (Nat × Value)} (hd : decode Y.2.1 pc = .ok (.astore i, 2)) (hi : i < Y.2.2.1) (hz : ls1 ls i .null = lz) (k : gF g d Y (pc + 2) lz st w Q) : gF g d Y pc ls (.null :: st) w Q := by
  refine k.pure fun r w' h => ?_
  intro p e R s m args below meth c n0 u0 H locs lsA C h1 h2 h3 h4 h5 h6 h7
  exact lv_astoreN C.1 C.2.1 hd h7 hi hz (fun lsB h8 => h p e R s m args below meth c n0 u0 H locs lsB C h1 h2 h3 h4 h5 h6 h8)
theorem g_ix {ls : List (Nat × Value)} {i : Nat} {v : Value} (hl : ls.lookup i = some v) : ∃ k : Nat, ls[k]? = some (i, v) := by
  induction ls with
  | nil => cases hl
  | cons q t ih =>
    obtain ⟨j, u⟩ := q
    by_cases hj : i = j
    · subst hj
      simp [List.lookup] at hl
      subst hl
      exact ⟨0, rfl⟩
    · have hj' : (i == j) = false := by simp [hj]
      simp only [List.lookup, hj'] at hl
      obtain ⟨k, hk⟩ := ih hl
      exact ⟨k + 1, hk⟩
theorem g_iinc {g : GE} {d : Nat} {Y : GM} {pc : Nat} {ls : List (Nat × Value)} {st : List Value} {w : GW} {Q : Option Value → GW → Prop} {i : Nat} {n : Int} {x : Int32} {lz : List (Nat × Value)} (hd : decode Y.2.1 pc = .ok (.iinc i n, 3)) (hl : ls.lookup i = some (.int x)) (hi : i < Y.2.2.1) (hz : ls1 ls i (.int (x + Int32.ofInt n)) = lz) (k : gF g d Y (pc + 3) lz st w Q) : gF g d Y pc ls st w Q := by
  obtain ⟨kk, hk⟩ := g_ix hl
  refine k.pure fun r w' h => ?_
  intro p e R s m args below meth c n0 u0 H locs lsA C h1 h2 h3 h4 h5 h6 h7
  exact lv_iinc C.1 C.2.1 hd h7 hk rfl hi hz (fun lsB h8 => h p e R s m args below meth c n0 u0 H locs lsB C h1 h2 h3 h4 h5 h6 h8)
theorem g_if_eq {g : GE} {d : Nat} {Y : GM} {pc : Nat} {ls : List (Nat × Value)} {st : List Value} {w : GW} {Q : Option Value → GW → Prop} {x : Int32} {off : Int} (tgt : Nat) (hd : decode Y.2.1 pc = .ok (.ifCond .eq off, 3)) (ht : (pc : Int) + off = (tgt : Int)) (kt : x = 0 → gF g d Y tgt ls st w Q) (kf : ¬ (x = 0) → gF g d Y (pc + 3) ls st w Q) : gF g d Y pc ls (.int x :: st) w Q := by
  by_cases hc : x = 0
  · refine (kt hc).pure fun r w' h => ?_
    intro p e R s m args below meth c n0 u0 H locs lsA C h1 h2 h3 h4 h5 h6 h7
    exact lv_if_eq C.1 C.2.1 hd ht (fun _ => (h p e R s m args below meth c n0 u0 H locs lsA C h1 h2 h3 h4 h5 h6 h7)) (fun q => absurd hc q)
  · refine (kf hc).pure fun r w' h => ?_
    intro p e R s m args below meth c n0 u0 H locs lsA C h1 h2 h3 h4 h5 h6 h7
    exact lv_if_eq C.1 C.2.1 hd ht (fun q => absurd q hc) (fun _ => (h p e R s m args below meth c n0 u0 H locs lsA C h1 h2 h3 h4 h5 h6 h7))
theorem g_if_lt {g : GE} {d : Nat} {Y : GM} {pc : Nat} {ls : List (Nat × Value)} {st : List Value} {w : GW} {Q : Option Value → GW → Prop} {x : Int32} {off : Int} (tgt : Nat) (hd : decode Y.2.1 pc = .ok (.ifCond .lt off, 3)) (ht : (pc : Int) + off = (tgt : Int)) (kt : x < 0 → gF g d Y tgt ls st w Q) (kf : ¬ (x < 0) → gF g d Y (pc + 3) ls st w Q) : gF g d Y pc ls (.int x :: st) w Q := by
  by_cases hc : x < 0
  · refine (kt hc).pure fun r w' h => ?_
    intro p e R s m args below meth c n0 u0 H locs lsA C h1 h2 h3 h4 h5 h6 h7
    exact lv_if_lt C.1 C.2.1 hd ht (fun _ => (h p e R s m args below meth c n0 u0 H locs lsA C h1 h2 h3 h4 h5 h6 h7)) (fun q => absurd hc q)
  · refine (kf hc).pure fun r w' h => ?_
    intro p e R s m args below meth c n0 u0 H locs lsA C h1 h2 h3 h4 h5 h6 h7
    exact lv_if_lt C.1 C.2.1 hd ht (fun q => absurd q hc) (fun _ => (h p e R s m args below meth c n0 u0 H locs lsA C h1 h2 h3 h4 h5 h6 h7))
theorem g_if_ge {g : GE} {d : Nat} {Y : GM} {pc : Nat} {ls : List (Nat × Value)} {st : List Value} {w : GW} {Q : Option Value → GW → Prop} {x : Int32} {off : Int} (tgt : Nat) (hd : decode Y.2.1 pc = .ok (.ifCond .ge off, 3)) (ht : (pc : Int) + off = (tgt : Int)) (kt : 0 ≤ x → gF g d Y tgt ls st w Q) (kf : ¬ (0 ≤ x) → gF g d Y (pc + 3) ls st w Q) : gF g d Y pc ls (.int x :: st) w Q := by
  by_cases hc : 0 ≤ x
  · refine (kt hc).pure fun r w' h => ?_
    intro p e R s m args below meth c n0 u0 H locs lsA C h1 h2 h3 h4 h5 h6 h7
    exact lv_if_ge C.1 C.2.1 hd ht (fun _ => (h p e R s m args below meth c n0 u0 H locs lsA C h1 h2 h3 h4 h5 h6 h7)) (fun q => absurd hc q)
  · refine (kf hc).pure fun r w' h => ?_
    intro p e R s m args below meth c n0 u0 H locs lsA C h1 h2 h3 h4 h5 h6 h7
    exact lv_if_ge C.1 C.2.1 hd ht (fun q => absurd q hc) (fun _ => (h p e R s m args below meth c n0 u0 H locs lsA C h1 h2 h3 h4 h5 h6 h7))
theorem g_if_gt {g : GE} {d : Nat} {Y : GM} {pc : Nat} {ls : List (Nat × Value)} {st : List Value} {w : GW} {Q : Option Value → GW → Prop} {x : Int32} {off : Int} (tgt : Nat) (hd : decode Y.2.1 pc = .ok (.ifCond .gt off, 3)) (ht : (pc : Int) + off = (tgt : Int)) (kt : 0 < x → gF g d Y tgt ls st w Q) (kf : ¬ (0 < x) → gF g d Y (pc + 3) ls st w Q) : gF g d Y pc ls (.int x :: st) w Q := by
  by_cases hc : 0 < x
  · refine (kt hc).pure fun r w' h => ?_
    intro p e R s m args below meth c n0 u0 H locs lsA C h1 h2 h3 h4 h5 h6 h7
    exact lv_if_gt C.1 C.2.1 hd ht (fun _ => (h p e R s m args below meth c n0 u0 H locs lsA C h1 h2 h3 h4 h5 h6 h7)) (fun q => absurd hc q)
  · refine (kf hc).pure fun r w' h => ?_
    intro p e R s m args below meth c n0 u0 H locs lsA C h1 h2 h3 h4 h5 h6 h7
    exact lv_if_gt C.1 C.2.1 hd ht (fun q => absurd q hc) (fun _ => (h p e R s m args below meth c n0 u0 H locs lsA C h1 h2 h3 h4 h5 h6 h7))
theorem g_if_le {g : GE} {d : Nat} {Y : GM} {pc : Nat} {ls : List (Nat × Value)} {st : List Value} {w : GW} {Q : Option Value → GW → Prop} {x : Int32} {off : Int} (tgt : Nat) (hd : decode Y.2.1 pc = .ok (.ifCond .le off, 3)) (ht : (pc : Int) + off = (tgt : Int)) (kt : x ≤ 0 → gF g d Y tgt ls st w Q) (kf : ¬ (x ≤ 0) → gF g d Y (pc + 3) ls st w Q) : gF g d Y pc ls (.int x :: st) w Q := by
  by_cases hc : x ≤ 0
  · refine (kt hc).pure fun r w' h => ?_
    intro p e R s m args below meth c n0 u0 H locs lsA C h1 h2 h3 h4 h5 h6 h7
    exact lv_if_le C.1 C.2.1 hd ht (fun _ => (h p e R s m args below meth c n0 u0 H locs lsA C h1 h2 h3 h4 h5 h6 h7)) (fun q => absurd hc q)
  · refine (kf hc).pure fun r w' h => ?_
    intro p e R s m args below meth c n0 u0 H locs lsA C h1 h2 h3 h4 h5 h6 h7
    exact lv_if_le C.1 C.2.1 hd ht (fun q => absurd q hc) (fun _ => (h p e R s m args below meth c n0 u0 H locs lsA C h1 h2 h3 h4 h5 h6 h7))
theorem g_icmp_eq {g : GE} {d : Nat} {Y : GM} {pc : Nat} {ls : List (Nat × Value)} {st : List Value} {w : GW} {Q : Option Value → GW → Prop} {x y : Int32} {off : Int} (tgt : Nat) (hd : decode Y.2.1 pc = .ok (.if_icmp .eq off, 3)) (ht : (pc : Int) + off = (tgt : Int)) (kt : x = y → gF g d Y tgt ls st w Q) (kf : ¬ (x = y) → gF g d Y (pc + 3) ls st w Q) : gF g d Y pc ls (.int y :: .int x :: st) w Q := by
  by_cases hc : x = y
  · refine (kt hc).pure fun r w' h => ?_
    intro p e R s m args below meth c n0 u0 H locs lsA C h1 h2 h3 h4 h5 h6 h7
    exact lv_icmp_eq C.1 C.2.1 hd ht (fun _ => (h p e R s m args below meth c n0 u0 H locs lsA C h1 h2 h3 h4 h5 h6 h7)) (fun q => absurd hc q)
  · refine (kf hc).pure fun r w' h => ?_
    intro p e R s m args below meth c n0 u0 H locs lsA C h1 h2 h3 h4 h5 h6 h7
    exact lv_icmp_eq C.1 C.2.1 hd ht (fun q => absurd q hc) (fun _ => (h p e R s m args below meth c n0 u0 H locs lsA C h1 h2 h3 h4 h5 h6 h7))
theorem g_icmp_lt {g : GE} {d : Nat} {Y : GM} {pc : Nat} {ls : List (Nat × Value)} {st : List Value} {w : GW} {Q : Option Value → GW → Prop} {x y : Int32} {off : Int} (tgt : Nat) (hd : decode Y.2.1 pc = .ok (.if_icmp .lt off, 3)) (ht : (pc : Int) + off = (tgt : Int)) (kt : x < y → gF g d Y tgt ls st w Q) (kf : ¬ (x < y) → gF g d Y (pc + 3) ls st w Q) : gF g d Y pc ls (.int y :: .int x :: st) w Q := by
  by_cases hc : x < y
  · refine (kt hc).pure fun r w' h => ?_
    intro p e R s m args below meth c n0 u0 H locs lsA C h1 h2 h3 h4 h5 h6 h7
    exact lv_icmp_lt C.1 C.2.1 hd ht (fun _ => (h p e R s m args below meth c n0 u0 H locs lsA C h1 h2 h3 h4 h5 h6 h7)) (fun q => absurd hc q)
  · refine (kf hc).pure fun r w' h => ?_
    intro p e R s m args below meth c n0 u0 H locs lsA C h1 h2 h3 h4 h5 h6 h7
    exact lv_icmp_lt C.1 C.2.1 hd ht (fun q => absurd q hc) (fun _ => (h p e R s m args below meth c n0 u0 H locs lsA C h1 h2 h3 h4 h5 h6 h7))
theorem g_icmp_ge {g : GE} {d : Nat} {Y : GM} {pc : Nat} {ls : List (Nat × Value)} {st : List Value} {w : GW} {Q : Option Value → GW → Prop} {x y : Int32} {off : Int} (tgt : Nat) (hd : decode Y.2.1 pc = .ok (.if_icmp .ge off, 3)) (ht : (pc : Int) + off = (tgt : Int)) (kt : y ≤ x → gF g d Y tgt ls st w Q) (kf : ¬ (y ≤ x) → gF g d Y (pc + 3) ls st w Q) : gF g d Y pc ls (.int y :: .int x :: st) w Q := by
  by_cases hc : y ≤ x
  · refine (kt hc).pure fun r w' h => ?_
    intro p e R s m args below meth c n0 u0 H locs lsA C h1 h2 h3 h4 h5 h6 h7
    exact lv_icmp_ge C.1 C.2.1 hd ht (fun _ => (h p e R s m args below meth c n0 u0 H locs lsA C h1 h2 h3 h4 h5 h6 h7)) (fun q => absurd hc q)
  · refine (kf hc).pure fun r w' h => ?_
    intro p e R s m args below meth c n0 u0 H locs lsA C h1 h2 h3 h4 h5 h6 h7
    exact lv_icmp_ge C.1 C.2.1 hd ht (fun q => absurd q hc) (fun _ => (h p e R s m args below meth c n0 u0 H locs lsA C h1 h2 h3 h4 h5 h6 h7))
theorem g_icmp_gt {g : GE} {d : Nat} {Y : GM} {pc : Nat} {ls : List (Nat × Value)} {st : List Value} {w : GW} {Q : Option Value → GW → Prop} {x y : Int32} {off : Int} (tgt : Nat) (hd : decode Y.2.1 pc = .ok (.if_icmp .gt off, 3)) (ht : (pc : Int) + off = (tgt : Int)) (kt : y < x → gF g d Y tgt ls st w Q) (kf : ¬ (y < x) → gF g d Y (pc + 3) ls st w Q) : gF g d Y pc ls (.int y :: .int x :: st) w Q := by
  by_cases hc : y < x
  · refine (kt hc).pure fun r w' h => ?_
    intro p e R s m args below meth c n0 u0 H locs lsA C h1 h2 h3 h4 h5 h6 h7
    exact lv_icmp_gt C.1 C.2.1 hd ht (fun _ => (h p e R s m args below meth c n0 u0 H locs lsA C h1 h2 h3 h4 h5 h6 h7)) (fun q => absurd hc q)
  · refine (kf hc).pure fun r w' h => ?_
    intro p e R s m args below meth c n0 u0 H locs lsA C h1 h2 h3 h4 h5 h6 h7
    exact lv_icmp_gt C.1 C.2.1 hd ht (fun q => absurd q hc) (fun _ => (h p e R s m args below meth c n0 u0 H locs lsA C h1 h2 h3 h4 h5 h6 h7))
theorem g_icmp_le {g : GE} {d : Nat} {Y : GM} {pc : Nat} {ls : List (Nat × Value)} {st : List Value} {w : GW} {Q : Option Value → GW → Prop} {x y : Int32} {off : Int} (tgt : Nat) (hd : decode Y.2.1 pc = .ok (.if_icmp .le off, 3)) (ht : (pc : Int) + off = (tgt : Int)) (kt : x ≤ y → gF g d Y tgt ls st w Q) (kf : ¬ (x ≤ y) → gF g d Y (pc + 3) ls st w Q) : gF g d Y pc ls (.int y :: .int x :: st) w Q := by
  by_cases hc : x ≤ y
  · refine (kt hc).pure fun r w' h => ?_
    intro p e R s m args below meth c n0 u0 H locs lsA C h1 h2 h3 h4 h5 h6 h7
    exact lv_icmp_le C.1 C.2.1 hd ht (fun _ => (h p e R s m args below meth c n0 u0 H locs lsA C h1 h2 h3 h4 h5 h6 h7)) (fun q => absurd hc q)
  · refine (kf hc).pure fun r w' h => ?_
    intro p e R s m args below meth c n0 u0 H locs lsA C h1 h2 h3 h4 h5 h6 h7
    exact lv_icmp_le C.1 C.2.1 hd ht (fun q => absurd q hc) (fun _ => (h p e R s m args below meth c n0 u0 H locs lsA C h1 h2 h3 h4 h5 h6 h7))
theorem g_if_ne {g : GE} {d : Nat} {Y : GM} {pc : Nat} {ls : List (Nat × Value)} {st : List Value} {w : GW} {Q : Option Value → GW → Prop} {x : Int32} {off : Int} (tgt : Nat) (hd : decode Y.2.1 pc = .ok (.ifCond .ne off, 3)) (ht : (pc : Int) + off = (tgt : Int)) (kt : ¬ x = 0 → gF g d Y tgt ls st w Q) (kf : x = 0 → gF g d Y (pc + 3) ls st w Q) : gF g d Y pc ls (.int x :: st) w Q := by
  by_cases hc : x = 0
  · refine (kf hc).pure fun r w' h => ?_
    intro p e R s m args below meth c n0 u0 H locs lsA C h1 h2 h3 h4 h5 h6 h7
    exact lv_if_ne C.1 C.2.1 hd ht (fun q => absurd hc q) (fun _ => (h p e R s m args below meth c n0 u0 H locs lsA C h1 h2 h3 h4 h5 h6 h7))
  · refine (kt hc).pure fun r w' h => ?_
    intro p e R s m args below meth c n0 u0 H locs lsA C h1 h2 h3 h4 h5 h6 h7
    exact lv_if_ne C.1 C.2.1 hd ht (fun _ => (h p e R s m args below meth c n0 u0 H locs lsA C h1 h2 h3 h4 h5 h6 h7)) (fun q => absurd q hc)
theorem g_icmp_ne {g : GE} {d : Nat} {Y : GM} {pc : Nat} {ls : List (Nat × Value)} {st : List Value} {w : GW} {Q : Option Value → GW → Prop} {x y : Int32} {off : Int} (tgt : Nat) (hd : decode Y.2.1 pc = .ok (.if_icmp .ne off, 3)) (ht : (pc : Int) + off = (tgt : Int)) (kt : ¬ x = y → gF g d Y tgt ls st w Q) (kf : x = y → gF g d Y (pc + 3) ls st w Q) : gF g d Y pc ls (.int y :: .int x :: st) w Q := by
  by_cases hc : x = y
  · refine (kf hc).pure fun r w' h => ?_
    intro p e R s m args below meth c n0 u0 H locs lsA C h1 h2 h3 h4 h5 h6 h7
    exact lv_icmp_ne C.1 C.2.1 hd ht (fun q => absurd hc q) (fun _ => (h p e R s m args below meth c n0 u0 H locs lsA C h1 h2 h3 h4 h5 h6 h7))
  · refine (kt hc).pure fun r w' h => ?_
    intro p e R s m args below meth c n0 u0 H locs lsA C h1 h2 h3 h4 h5 h6 h7
    exact lv_icmp_ne C.1 C.2.1 hd ht (fun _ => (h p e R s m args below meth c n0 u0 H locs lsA C h1 h2 h3 h4 h5 h6 h7)) (fun q => absurd q hc)
theorem g_goto {g : GE} {d : Nat} {Y : GM} {pc : Nat} {ls : List (Nat × Value)} {st : List Value} {w : GW} {Q : Option Value → GW → Prop} {off : Int} (tgt : Nat) (hd : decode Y.2.1 pc = .ok (.goto off, 3)) (ht : (pc : Int) + off = (tgt : Int)) (k : gF g d Y tgt ls st w Q) : gF g d Y pc ls st w Q := by
  refine k.pure fun r w' h => ?_
  intro p e R s m args below meth c n0 u0 H locs lsA C h1 h2 h3 h4 h5 h6 h7
  exact lv_goto C.1 C.2.1 hd ht (h p e R s m args below meth c n0 u0 H locs lsA C h1 h2 h3 h4 h5 h6 h7)
theorem g_ifnonnull {g : GE} {d : Nat} {Y : GM} {pc : Nat} {ls : List (Nat × Value)} {st : List Value} {w : GW} {Q : Option Value → GW → Prop} {x : Nat} {off : Int} (tgt : Nat) (hd : decode Y.2.1 pc = .ok (.ifnonnull off, 3)) (ht : (pc : Int) + off = (tgt : Int)) (k : gF g d Y tgt ls st w Q) : gF g d Y pc ls (.ref x :: st) w Q := by
  refine k.pure fun r w' h => ?_
  intro p e R s m args below meth c n0 u0 H locs lsA C h1 h2 h3 h4 h5 h6 h7
  exact lv_ifnonnull C.1 C.2.1 hd ht (h p e R s m args below meth c n0 u0 H locs lsA C h1 h2 h3 h4 h5 h6 h7)
theorem g_ifnonnullN {g : GE} {d : Nat} {Y : GM} {pc : Nat} {ls : List (Nat × Value)} {st : List Value} {w : GW} {Q : Option Value → GW → Prop} {off : Int} (hd : decode Y.2.1 pc = .ok (.ifnonnull off, 3)) (k : gF g d Y (pc + 3) ls st w Q) : gF g d Y pc ls (.null :: st) w Q := by
  refine k.pure fun r w' h => ?_
  intro p e R s m args below meth c n0 u0 H locs lsA C h1 h2 h3 h4 h5 h6 h7
  exact lv_ifnonnullN C.1 C.2.1 hd (h p e R s m args below meth c n0 u0 H locs lsA C h1 h2 h3 h4 h5 h6 h7)
theorem g_ifnull {g : GE} {d : Nat} {Y : GM} {pc : Nat} {ls : List (Nat × Value)} {st : List Value} {w : GW} {Q : Option Value → GW → Prop} {x : Nat} {off : Int} (hd : decode Y.2.1 pc = .ok (.ifnull off, 3)) (k : gF g d Y (pc + 3) ls st w Q) : gF g d Y pc ls (.ref x :: st) w Q := by
  refine k.pure fun r w' h => ?_
  intro p e R s m args below meth c n0 u0 H locs lsA C h1 h2 h3 h4 h5 h6 h7
  exact lv_ifnull C.1 C.2.1 hd (h p e R s m args below meth c n0 u0 H locs lsA C h1 h2 h3 h4 h5 h6 h7)
theorem g_ifnullN {g : GE} {d : Nat} {Y : GM} {pc : Nat} {ls : List (Nat × Value)} {st : List Value} {w : GW} {Q : Option Value → GW → Prop} {off : Int} (tgt : Nat) (hd : decode Y.2.1 pc = .ok (.ifnull off, 3)) (ht : (pc : Int) + off = (tgt : Int)) (k : gF g d Y tgt ls st w Q) : gF g d Y pc ls (.null :: st) w Q := by
  refine k.pure fun r w' h => ?_
  intro p e R s m args below meth c n0 u0 H locs lsA C h1 h2 h3 h4 h5 h6 h7
  exact lv_ifnullN C.1 C.2.1 hd ht (h p e R s m args below meth c n0 u0 H locs lsA C h1 h2 h3 h4 h5 h6 h7)
theorem g_tableOut {g : GE} {d : Nat} {Y : GM} {pc : Nat} {ls : List (Nat × Value)} {st : List Value} {w : GW} {Q : Option Value → GW → Prop} {dflt lo hi : Int} {offs : Array Int} {len : Nat} {x : Int32} (tgt : Nat) (hd : decode Y.2.1 pc = .ok (.tableswitch dflt lo hi offs, len)) (hc : x.toInt < lo ∨ hi < x.toInt) (ht : (pc : Int) + dflt = (tgt : Int)) (k : gF g d Y tgt ls st w Q) : gF g d Y pc ls (.int x :: st) w Q := by
  refine k.pure fun r w' h => ?_
  intro p e R s m args below meth c n0 u0 H locs lsA C h1 h2 h3 h4 h5 h6 h7
  exact lv_tableOut C.1 C.2.1 hd hc ht (h p e R s m args below meth c n0 u0 H locs lsA C h1 h2 h3 h4 h5 h6 h7)
theorem g_tableIn {g : GE} {d : Nat} {Y : GM} {pc : Nat} {ls : List (Nat × Value)} {st : List Value} {w : GW} {Q : Option Value → GW → Prop} {dflt lo hi : Int} {offs : Array Int} {len : Nat} {x : Int32} {off : Int} (tgt : Nat) (hd : decode Y.2.1 pc = .ok (.tableswitch dflt lo hi offs, len)) (hc1 : ¬ x.toInt < lo) (hc2 : ¬ hi < x.toInt) (ho : offs[(x.toInt - lo).toNat]? = some off) (ht : (pc : Int) + off = (tgt : Int)) (k : gF g d Y tgt ls st w Q) : gF g d Y pc ls (.int x :: st) w Q := by
  refine k.pure fun r w' h => ?_
  intro p e R s m args below meth c n0 u0 H locs lsA C h1 h2 h3 h4 h5 h6 h7
  exact lv_tableIn C.1 C.2.1 hd hc1 hc2 ho ht (h p e R s m args below meth c n0 u0 H locs lsA C h1 h2 h3 h4 h5 h6 h7)
theorem g_lookup {g : GE} {d : Nat} {Y : GM} {pc : Nat} {ls : List (Nat × Value)} {st : List Value} {w : GW} {Q : Option Value → GW → Prop} {dflt : Int} {ps : Array (Int × Int)} {len : Nat} {x : Int32} {off : Int} (tgt : Nat) (hd : decode Y.2.1 pc = .ok (.lookupswitch dflt ps, len)) (hp : (ps.toList.zip (ps.toList.drop 1)).all (fun (a, next) => a.1 < next.1) = true) (ho : Op.lookupswitch.offset ps.toList dflt x.toInt = off) (ht : (pc : Int) + off = (tgt : Int)) (k : gF g d Y tgt ls st w Q) : gF g d Y pc ls (.int x :: st) w Q := by
  refine k.pure fun r w' h => ?_
  intro p e R s m args below meth c n0 u0 H locs lsA C h1 h2 h3 h4 h5 h6 h7
  exact lv_lookup C.1 C.2.1 hd hp ho ht (h p e R s m args below meth c n0 u0 H locs lsA C h1 h2 h3 h4 h5 h6 h7)
