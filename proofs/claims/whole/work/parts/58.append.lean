/-! ===== a step is appended: the class ===== -/
def bpW (w : GW) (q p n : Nat) (v : Int32) : GW := if v = 2 then setI (setR (setR w 455 p (some n)) 66 q (some n)) 67 q (gI w 67 q + 1) else setR (setR w 455 p (some n)) 66 q (some n)
def clW (w : GW) (q p n so rt : Nat) (a : Option Nat) : GW := setI (setR (setI (setR (setR w 455 p (some n)) 66 q (some n)) 454 so (gI w 452 n)) 322 rt a) 324 rt (gI w 324 rt - 1)
def opW (w : GW) (rt n : Nat) (a : Option Nat) : GW := setI (setR (setR (setR (setR (newO w 1 4) 64 (gN w) (some n)) 65 (gN w) a) 66 (gN w) (some n)) 322 rt (some (gN w))) 324 rt (gI w 324 rt + 1)
def apW (g : GE) (w : GW) (r s : Nat) (v a b c : Int32) : GW := setI (setP (setS (newO w 7 8) (gN w) v a b c (nI s) (nI (40 * r + s))) (aSt g r) s (some (gN w))) 323 (aRt g r) (nI (s + 1))
set_option maxHeartbeats 4000000 in
set_option maxRecDepth 20000 in
theorem c_beginPart {g : GE} {d : Nat} {w : GW} {Q : Option Value → GW → Prop} {q p n : Nat} {v : Int32} (hq : gOb g w q 1) (hp : gR w 66 q = some p) (hpo : gOb g w p 7) (hn : gOb g w n 7) (hv : gI w 448 n = v) (k : Q none (bpW w q p n v)) : gM g d mX1_beginPart [.ref q, .ref n] w Q := by
  refine gM.of (by decide) (Nat.le_of_ble_eq_true rfl) ?_
  unfold bpW at k
  refine g_aload_n dX1_beginPart_0 rfl ?_
  refine g_getR 1 2 66 dX1_beginPart_1 fX1_17 rfl rfl (by assumption) (by assumption) ?_
  refine g_aload_n dX1_beginPart_4 rfl ?_
  refine g_putR 7 7 455 dX1_beginPart_5 fX1_20 rfl rfl rfl rfl (by assumption) ?_
  refine g_aload_n dX1_beginPart_8 rfl ?_
  refine g_aload_n dX1_beginPart_9 rfl ?_
  refine g_putR 1 2 66 dX1_beginPart_10 fX1_17 rfl rfl rfl rfl (by assumption) ?_
  refine g_aload_n dX1_beginPart_13 rfl ?_
  refine g_getI 7 0 448 dX1_beginPart_14 fX1_25 rfl rfl hn ?_
  rw [show gI (setR (setR w 455 p (some n)) 66 q (some n)) 448 n = v from hv]
  refine g_iconstV (v := 2) dX1_beginPart_17 (by decide) ?_
  refine g_icmp_ne 31 dX1_beginPart_18 (by decide) (fun c1 => ?_) (fun c1 => ?_)
  · refine g_vret dX1_beginPart_31 rfl ?_
    rw [if_neg c1] at k
    exact k
  · refine g_aload_n dX1_beginPart_21 rfl ?_
    refine g_dup dX1_beginPart_22 rfl ?_
    refine g_getI 1 3 67 dX1_beginPart_23 fX1_29 rfl rfl (by assumption) ?_
    refine g_iconstV (v := 1) dX1_beginPart_26 (by decide) ?_
    refine g_iadd dX1_beginPart_27 ?_
    refine g_putI 1 3 67 dX1_beginPart_28 fX1_29 rfl rfl (by assumption) ?_
    refine g_vret dX1_beginPart_31 rfl ?_
    rw [if_pos c1] at k
    exact k
set_option maxHeartbeats 4000000 in
set_option maxRecDepth 20000 in
theorem c_closeInnermostN {g : GE} {d : Nat} {w : GW} {Q : Option Value → GW → Prop} (hd : 1 ≤ d) {q p n so rt : Nat} (hr : gOb g w rt 5) (hi : gR w 322 rt = some q) (hq : gOb g w q 1) (hp : gR w 66 q = some p) (hpo : gOb g w p 7) (hn : gOb g w n 7) (hv : gI w 448 n = 0) (hso : gR w 64 q = some so) (hsob : gOb g w so 7) (ho : gR w 65 q = none) (k : Q none (clW w q p n so rt none)) : gM g d mX5_closeInnermost [.ref rt, .ref n] w Q := by
  refine gM.of (by decide) (Nat.le_of_ble_eq_true rfl) ?_
  have e1 : bpW w q p n 0 = (setR (setR w 455 p (some n)) 66 q (some n)) := by unfold bpW; rw [if_neg (by decide)]
  have i2 : gR (setR (setR w 455 p (some n)) 66 q (some n)) 322 rt = some q := (by rw [gR_setR, up2_ne _ _ (by omega), gR_setR, up2_ne _ _ (by omega)]; exact hi)
  have s2 : gR (setR (setR w 455 p (some n)) 66 q (some n)) 64 q = some so := (by rw [gR_setR, up2_ne _ _ (by omega), gR_setR, up2_ne _ _ (by omega)]; exact hso)
  have o2 : gR (setR (setR w 455 p (some n)) 66 q (some n)) 65 q = none := (by rw [gR_setR, up2_ne _ _ (by omega), gR_setR, up2_ne _ _ (by omega)]; exact ho)
  unfold clW at k
  refine g_aload_n dX5_closeInnermost_0 rfl ?_
  refine g_getR 5 2 322 dX5_closeInnermost_1 fX5_25 rfl rfl hr hi ?_
  refine g_ifnull dX5_closeInnermost_4 ?_
  refine g_aload_n dX5_closeInnermost_7 rfl ?_
  refine g_getR 5 2 322 dX5_closeInnermost_8 fX5_25 rfl rfl (by assumption) (by assumption) ?_
  refine g_aload_n dX5_closeInnermost_11 rfl ?_
  refine g_callV (d1 := d - 1) (As := [_]) 1 dX5_closeInnermost_12 vX5_68 (by omega) (by assumption) rfl rfl (Nat.le_of_ble_eq_true rfl) ?_
  refine c_beginPart hq hp hpo hn hv ?_
  rw [e1]
  refine g_aload_n dX5_closeInnermost_15 rfl ?_
  refine g_getR 5 2 322 dX5_closeInnermost_16 fX5_25 rfl rfl hr i2 ?_
  refine g_getR 1 0 64 dX5_closeInnermost_19 fX5_52 rfl rfl hq s2 ?_
  refine g_aload_n dX5_closeInnermost_22 rfl ?_
  refine g_getI 7 4 452 dX5_closeInnermost_23 fX5_74 rfl rfl (by assumption) ?_
  refine g_putI 7 6 454 dX5_closeInnermost_26 fX5_75 rfl rfl hsob ?_
  refine g_aload_n dX5_closeInnermost_29 rfl ?_
  refine g_aload_n dX5_closeInnermost_30 rfl ?_
  refine g_getR 5 2 322 dX5_closeInnermost_31 fX5_25 rfl rfl hr i2 ?_
  refine g_getN 1 1 65 dX5_closeInnermost_34 fX5_62 rfl rfl hq o2 ?_
  refine g_putN 5 2 322 dX5_closeInnermost_37 fX5_25 rfl rfl rfl rfl hr ?_
  refine g_aload_n dX5_closeInnermost_40 rfl ?_
  refine g_dup dX5_closeInnermost_41 rfl ?_
  refine g_getI 5 4 324 dX5_closeInnermost_42 fX5_22 rfl rfl (by assumption) ?_
  refine g_iconstV (v := 1) dX5_closeInnermost_45 (by decide) ?_
  refine g_isub dX5_closeInnermost_46 ?_
  refine g_putI 5 4 324 dX5_closeInnermost_47 fX5_22 rfl rfl (by assumption) ?_
  refine g_vret dX5_closeInnermost_50 rfl ?_
  have e9 : gI (setR (setI (setR (setR w 455 p (some n)) 66 q (some n)) 454 so (gI w 452 n)) 322 rt none) 324 rt = gI w 324 rt := by rw [gI_setR, gI_setI, up2_ne _ _ (by omega)]; rfl
  rw [← e9] at k
  exact k
set_option maxHeartbeats 4000000 in
set_option maxRecDepth 20000 in
theorem c_closeInnermostS {g : GE} {d : Nat} {w : GW} {Q : Option Value → GW → Prop} (hd : 1 ≤ d) {q p n so rt : Nat} (hr : gOb g w rt 5) (hi : gR w 322 rt = some q) (hq : gOb g w q 1) (hp : gR w 66 q = some p) (hpo : gOb g w p 7) (hn : gOb g w n 7) (hv : gI w 448 n = 0) (hso : gR w 64 q = some so) (hsob : gOb g w so 7) {a : Nat} (ho : gR w 65 q = some a) (k : Q none (clW w q p n so rt (some a))) : gM g d mX5_closeInnermost [.ref rt, .ref n] w Q := by
  refine gM.of (by decide) (Nat.le_of_ble_eq_true rfl) ?_
  have e1 : bpW w q p n 0 = (setR (setR w 455 p (some n)) 66 q (some n)) := by unfold bpW; rw [if_neg (by decide)]
  have i2 : gR (setR (setR w 455 p (some n)) 66 q (some n)) 322 rt = some q := (by rw [gR_setR, up2_ne _ _ (by omega), gR_setR, up2_ne _ _ (by omega)]; exact hi)
  have s2 : gR (setR (setR w 455 p (some n)) 66 q (some n)) 64 q = some so := (by rw [gR_setR, up2_ne _ _ (by omega), gR_setR, up2_ne _ _ (by omega)]; exact hso)
  have o2 : gR (setR (setR w 455 p (some n)) 66 q (some n)) 65 q = (some a) := (by rw [gR_setR, up2_ne _ _ (by omega), gR_setR, up2_ne _ _ (by omega)]; exact ho)
  unfold clW at k
  refine g_aload_n dX5_closeInnermost_0 rfl ?_
  refine g_getR 5 2 322 dX5_closeInnermost_1 fX5_25 rfl rfl hr hi ?_
  refine g_ifnull dX5_closeInnermost_4 ?_
  refine g_aload_n dX5_closeInnermost_7 rfl ?_
  refine g_getR 5 2 322 dX5_closeInnermost_8 fX5_25 rfl rfl (by assumption) (by assumption) ?_
  refine g_aload_n dX5_closeInnermost_11 rfl ?_
  refine g_callV (d1 := d - 1) (As := [_]) 1 dX5_closeInnermost_12 vX5_68 (by omega) (by assumption) rfl rfl (Nat.le_of_ble_eq_true rfl) ?_
  refine c_beginPart hq hp hpo hn hv ?_
  rw [e1]
  refine g_aload_n dX5_closeInnermost_15 rfl ?_
  refine g_getR 5 2 322 dX5_closeInnermost_16 fX5_25 rfl rfl hr i2 ?_
  refine g_getR 1 0 64 dX5_closeInnermost_19 fX5_52 rfl rfl hq s2 ?_
  refine g_aload_n dX5_closeInnermost_22 rfl ?_
  refine g_getI 7 4 452 dX5_closeInnermost_23 fX5_74 rfl rfl (by assumption) ?_
  refine g_putI 7 6 454 dX5_closeInnermost_26 fX5_75 rfl rfl hsob ?_
  refine g_aload_n dX5_closeInnermost_29 rfl ?_
  refine g_aload_n dX5_closeInnermost_30 rfl ?_
  refine g_getR 5 2 322 dX5_closeInnermost_31 fX5_25 rfl rfl hr i2 ?_
  refine g_getR 1 1 65 dX5_closeInnermost_34 fX5_62 rfl rfl hq o2 ?_
  refine g_putR 5 2 322 dX5_closeInnermost_37 fX5_25 rfl rfl rfl rfl hr ?_
  refine g_aload_n dX5_closeInnermost_40 rfl ?_
  refine g_dup dX5_closeInnermost_41 rfl ?_
  refine g_getI 5 4 324 dX5_closeInnermost_42 fX5_22 rfl rfl (by assumption) ?_
  refine g_iconstV (v := 1) dX5_closeInnermost_45 (by decide) ?_
  refine g_isub dX5_closeInnermost_46 ?_
  refine g_putI 5 4 324 dX5_closeInnermost_47 fX5_22 rfl rfl (by assumption) ?_
  refine g_vret dX5_closeInnermost_50 rfl ?_
  have e9 : gI (setR (setI (setR (setR w 455 p (some n)) 66 q (some n)) 454 so (gI w 452 n)) 322 rt (some a)) 324 rt = gI w 324 rt := by rw [gI_setR, gI_setI, up2_ne _ _ (by omega)]; rfl
  rw [← e9] at k
  exact k
theorem c_closeInnermost {g : GE} {d : Nat} {w : GW} {Q : Option Value → GW → Prop} (hd : 1 ≤ d) {q p n so rt : Nat} {a : Option Nat} (hr : gOb g w rt 5) (hi : gR w 322 rt = some q) (hq : gOb g w q 1) (hp : gR w 66 q = some p) (hpo : gOb g w p 7) (hn : gOb g w n 7) (hv : gI w 448 n = 0) (hso : gR w 64 q = some so) (hsob : gOb g w so 7) (ho : gR w 65 q = a) (k : Q none (clW w q p n so rt a)) : gM g d mX5_closeInnermost [.ref rt, .ref n] w Q := by
  cases a with
  | none => exact c_closeInnermostN hd hr hi hq hp hpo hn hv hso hsob ho k
  | some a => exact c_closeInnermostS hd hr hi hq hp hpo hn hv hso hsob ho k
set_option maxHeartbeats 4000000 in
set_option maxRecDepth 20000 in
theorem c_tie0 {g : GE} {d : Nat} {w : GW} {Q : Option Value → GW → Prop} (hd : 2 ≤ d) {n rt : Nat} (hr : gOb g w rt 5) (hn : gOb g w n 7) (hv : gI w 448 n = 0) {q p so : Nat} {a : Option Nat} (hi : gR w 322 rt = some q) (hq : gOb g w q 1) (hp : gR w 66 q = some p) (hpo : gOb g w p 7) (hso : gR w 64 q = some so) (hsob : gOb g w so 7) (ho : gR w 65 q = a) (k : Q none (clW w q p n so rt a)) : gM g d mX5_tieToBlocks [.ref rt, .ref n] w Q := by
  refine gM.of (by decide) (Nat.le_of_ble_eq_true rfl) ?_
  refine g_aload_n dX5_tieToBlocks_0 rfl ?_
  refine g_getI 7 0 448 dX5_tieToBlocks_1 fX5_56 rfl rfl (by assumption) ?_
  refine g_tableIn (off := 111) 115 dX5_tieToBlocks_4 (by rw [hv]; decide) (by rw [hv]; decide) (by rw [hv]; rfl) (by decide) ?_
  refine g_aload_n dX5_tieToBlocks_115 rfl ?_
  refine g_aload_n dX5_tieToBlocks_116 rfl ?_
  refine g_callV (d1 := d - 1) (As := [_]) 5 dX5_tieToBlocks_117 vX5_71 (by omega) (by assumption) rfl rfl (Nat.le_of_ble_eq_true rfl) ?_
  refine c_closeInnermost (by omega) hr hi hq hp hpo hn hv hso hsob ho ?_
  refine g_goto 123 dX5_tieToBlocks_120 (by decide) ?_
  refine g_vret dX5_tieToBlocks_123 rfl ?_
  exact k
set_option maxHeartbeats 4000000 in
set_option maxRecDepth 20000 in
theorem c_tie2 {g : GE} {d : Nat} {w : GW} {Q : Option Value → GW → Prop} (hd : 2 ≤ d) {n rt : Nat} (hr : gOb g w rt 5) (hn : gOb g w n 7) (hv : gI w 448 n = 2) {q p : Nat} (hi : gR w 322 rt = some q) (hq : gOb g w q 1) (hp : gR w 66 q = some p) (hpo : gOb g w p 7) (k : Q none (bpW w q p n 2)) : gM g d mX5_tieToBlocks [.ref rt, .ref n] w Q := by
  refine gM.of (by decide) (Nat.le_of_ble_eq_true rfl) ?_
  refine g_aload_n dX5_tieToBlocks_0 rfl ?_
  refine g_getI 7 0 448 dX5_tieToBlocks_1 fX5_56 rfl rfl (by assumption) ?_
  refine g_tableIn (off := 93) 97 dX5_tieToBlocks_4 (by rw [hv]; decide) (by rw [hv]; decide) (by rw [hv]; rfl) (by decide) ?_
  refine g_aload_n dX5_tieToBlocks_97 rfl ?_
  refine g_getR 5 2 322 dX5_tieToBlocks_98 fX5_25 rfl rfl hr hi ?_
  refine g_ifnull dX5_tieToBlocks_101 ?_
  refine g_aload_n dX5_tieToBlocks_104 rfl ?_
  refine g_getR 5 2 322 dX5_tieToBlocks_105 fX5_25 rfl rfl (by assumption) (by assumption) ?_
  refine g_aload_n dX5_tieToBlocks_108 rfl ?_
  refine g_callV (d1 := d - 1) (As := [_]) 1 dX5_tieToBlocks_109 vX5_68 (by omega) (by assumption) rfl rfl (Nat.le_of_ble_eq_true rfl) ?_
  refine c_beginPart hq hp hpo hn hv ?_
  refine g_goto 123 dX5_tieToBlocks_112 (by decide) ?_
  refine g_vret dX5_tieToBlocks_123 rfl ?_
  exact k
set_option maxHeartbeats 4000000 in
set_option maxRecDepth 20000 in
theorem c_tie3 {g : GE} {d : Nat} {w : GW} {Q : Option Value → GW → Prop} (hd : 2 ≤ d) {n rt : Nat} (hr : gOb g w rt 5) (hn : gOb g w n 7) (hv : gI w 448 n = 3) {q p : Nat} (hi : gR w 322 rt = some q) (hq : gOb g w q 1) (hp : gR w 66 q = some p) (hpo : gOb g w p 7) (k : Q none (bpW w q p n 3)) : gM g d mX5_tieToBlocks [.ref rt, .ref n] w Q := by
  refine gM.of (by decide) (Nat.le_of_ble_eq_true rfl) ?_
  refine g_aload_n dX5_tieToBlocks_0 rfl ?_
  refine g_getI 7 0 448 dX5_tieToBlocks_1 fX5_56 rfl rfl (by assumption) ?_
  refine g_tableIn (off := 93) 97 dX5_tieToBlocks_4 (by rw [hv]; decide) (by rw [hv]; decide) (by rw [hv]; rfl) (by decide) ?_
  refine g_aload_n dX5_tieToBlocks_97 rfl ?_
  refine g_getR 5 2 322 dX5_tieToBlocks_98 fX5_25 rfl rfl hr hi ?_
  refine g_ifnull dX5_tieToBlocks_101 ?_
  refine g_aload_n dX5_tieToBlocks_104 rfl ?_
  refine g_getR 5 2 322 dX5_tieToBlocks_105 fX5_25 rfl rfl (by assumption) (by assumption) ?_
  refine g_aload_n dX5_tieToBlocks_108 rfl ?_
  refine g_callV (d1 := d - 1) (As := [_]) 1 dX5_tieToBlocks_109 vX5_68 (by omega) (by assumption) rfl rfl (Nat.le_of_ble_eq_true rfl) ?_
  refine c_beginPart hq hp hpo hn hv ?_
  refine g_goto 123 dX5_tieToBlocks_112 (by decide) ?_
  refine g_vret dX5_tieToBlocks_123 rfl ?_
  exact k
set_option maxHeartbeats 4000000 in
set_option maxRecDepth 20000 in
theorem c_tie1N {g : GE} {d : Nat} {w : GW} {Q : Option Value → GW → Prop} (hd : 2 ≤ d) {n rt : Nat} (hr : gOb g w rt 5) (hn : gOb g w n 7) (hv : gI w 448 n = 1) (hB : eB g ≤ gN w) (ha : gR w 322 rt = none) (k : Q none (opW w rt n none)) : gM g d mX5_tieToBlocks [.ref rt, .ref n] w Q := by
  refine gM.of (by decide) (Nat.le_of_ble_eq_true rfl) ?_
  have r2 := gOb_newO (c := 1) (N := 4) hr
  have a2 : gR (newO w 1 4) 322 rt = none := by rw [gR_newO, nul2, if_neg (Nat.ne_of_lt hr.2.1)]; exact ha
  have hb := gOb_selfO (g := g) (ci := 1) (N := 4) hB
  have e9 : gI (newO w 1 4) 324 rt = gI w 324 rt := by rw [gI_newO, nul2, if_neg (Nat.ne_of_lt hr.2.1)]
  unfold opW at k
  rw [← e9] at k
  refine g_aload_n dX5_tieToBlocks_0 rfl ?_
  refine g_getI 7 0 448 dX5_tieToBlocks_1 fX5_56 rfl rfl (by assumption) ?_
  refine g_tableIn (off := 64) 68 dX5_tieToBlocks_4 (by rw [hv]; decide) (by rw [hv]; decide) (by rw [hv]; rfl) (by decide) ?_
  refine g_aload_n dX5_tieToBlocks_68 rfl ?_
  refine g_new 1 4 dX5_tieToBlocks_69 nX5_41 rfl ?_
  refine g_dup dX5_tieToBlocks_72 rfl ?_
  refine g_aload_n dX5_tieToBlocks_73 rfl ?_
  refine g_aload_n dX5_tieToBlocks_74 rfl ?_
  refine g_getN 5 2 322 dX5_tieToBlocks_75 fX5_25 rfl rfl r2 a2 ?_
  refine g_callI (d1 := d - 1) (As := [_, _]) dX5_tieToBlocks_78 iX5_65 (by omega) rfl rfl (Nat.le_of_ble_eq_true rfl) ?_
  refine c_Block_init0 hb (by omega) ?_
  refine g_putR 5 2 322 dX5_tieToBlocks_81 fX5_25 rfl rfl rfl rfl r2 ?_
  refine g_aload_n dX5_tieToBlocks_84 rfl ?_
  refine g_dup dX5_tieToBlocks_85 rfl ?_
  refine g_getI 5 4 324 dX5_tieToBlocks_86 fX5_22 rfl rfl r2 ?_
  refine g_iconstV (v := 1) dX5_tieToBlocks_89 (by decide) ?_
  refine g_iadd dX5_tieToBlocks_90 ?_
  refine g_putI 5 4 324 dX5_tieToBlocks_91 fX5_22 rfl rfl r2 ?_
  refine g_goto 123 dX5_tieToBlocks_94 (by decide) ?_
  refine g_vret dX5_tieToBlocks_123 rfl ?_
  exact k
set_option maxHeartbeats 4000000 in
set_option maxRecDepth 20000 in
theorem c_tie1S {g : GE} {d : Nat} {w : GW} {Q : Option Value → GW → Prop} (hd : 2 ≤ d) {n rt : Nat} (hr : gOb g w rt 5) (hn : gOb g w n 7) (hv : gI w 448 n = 1) {a : Nat} (hB : eB g ≤ gN w) (ha : gR w 322 rt = (some a)) (k : Q none (opW w rt n (some a))) : gM g d mX5_tieToBlocks [.ref rt, .ref n] w Q := by
  refine gM.of (by decide) (Nat.le_of_ble_eq_true rfl) ?_
  have r2 := gOb_newO (c := 1) (N := 4) hr
  have a2 : gR (newO w 1 4) 322 rt = (some a) := by rw [gR_newO, nul2, if_neg (Nat.ne_of_lt hr.2.1)]; exact ha
  have hb := gOb_selfO (g := g) (ci := 1) (N := 4) hB
  have e9 : gI (newO w 1 4) 324 rt = gI w 324 rt := by rw [gI_newO, nul2, if_neg (Nat.ne_of_lt hr.2.1)]
  unfold opW at k
  rw [← e9] at k
  refine g_aload_n dX5_tieToBlocks_0 rfl ?_
  refine g_getI 7 0 448 dX5_tieToBlocks_1 fX5_56 rfl rfl (by assumption) ?_
  refine g_tableIn (off := 64) 68 dX5_tieToBlocks_4 (by rw [hv]; decide) (by rw [hv]; decide) (by rw [hv]; rfl) (by decide) ?_
  refine g_aload_n dX5_tieToBlocks_68 rfl ?_
  refine g_new 1 4 dX5_tieToBlocks_69 nX5_41 rfl ?_
  refine g_dup dX5_tieToBlocks_72 rfl ?_
  refine g_aload_n dX5_tieToBlocks_73 rfl ?_
  refine g_aload_n dX5_tieToBlocks_74 rfl ?_
  refine g_getR 5 2 322 dX5_tieToBlocks_75 fX5_25 rfl rfl r2 a2 ?_
  refine g_callI (d1 := d - 1) (As := [_, _]) dX5_tieToBlocks_78 iX5_65 (by omega) rfl rfl (Nat.le_of_ble_eq_true rfl) ?_
  refine c_Block_init hb (by omega) ?_
  refine g_putR 5 2 322 dX5_tieToBlocks_81 fX5_25 rfl rfl rfl rfl r2 ?_
  refine g_aload_n dX5_tieToBlocks_84 rfl ?_
  refine g_dup dX5_tieToBlocks_85 rfl ?_
  refine g_getI 5 4 324 dX5_tieToBlocks_86 fX5_22 rfl rfl r2 ?_
  refine g_iconstV (v := 1) dX5_tieToBlocks_89 (by decide) ?_
  refine g_iadd dX5_tieToBlocks_90 ?_
  refine g_putI 5 4 324 dX5_tieToBlocks_91 fX5_22 rfl rfl r2 ?_
  refine g_goto 123 dX5_tieToBlocks_94 (by decide) ?_
  refine g_vret dX5_tieToBlocks_123 rfl ?_
  exact k
theorem c_tie1 {g : GE} {d : Nat} {w : GW} {Q : Option Value → GW → Prop} (hd : 2 ≤ d) {n rt : Nat} {a : Option Nat} (hr : gOb g w rt 5) (hn : gOb g w n 7) (hv : gI w 448 n = 1) (hB : eB g ≤ gN w) (ha : gR w 322 rt = a) (k : Q none (opW w rt n a)) : gM g d mX5_tieToBlocks [.ref rt, .ref n] w Q := by
  cases a with
  | none => exact c_tie1N hd hr hn hv hB ha k
  | some a => exact c_tie1S hd hr hn hv hB ha k
set_option maxHeartbeats 4000000 in
set_option maxRecDepth 20000 in
theorem c_tie4N {g : GE} {d : Nat} {w : GW} {Q : Option Value → GW → Prop} (hd : 2 ≤ d) {n rt : Nat} (hr : gOb g w rt 5) (hn : gOb g w n 7) (hv : gI w 448 n = 4) (hB : eB g ≤ gN w) (ha : gR w 322 rt = none) (k : Q none (opW w rt n none)) : gM g d mX5_tieToBlocks [.ref rt, .ref n] w Q := by
  refine gM.of (by decide) (Nat.le_of_ble_eq_true rfl) ?_
  have r2 := gOb_newO (c := 1) (N := 4) hr
  have a2 : gR (newO w 1 4) 322 rt = none := by rw [gR_newO, nul2, if_neg (Nat.ne_of_lt hr.2.1)]; exact ha
  have hb := gOb_selfO (g := g) (ci := 1) (N := 4) hB
  have e9 : gI (newO w 1 4) 324 rt = gI w 324 rt := by rw [gI_newO, nul2, if_neg (Nat.ne_of_lt hr.2.1)]
  unfold opW at k
  rw [← e9] at k
  refine g_aload_n dX5_tieToBlocks_0 rfl ?_
  refine g_getI 7 0 448 dX5_tieToBlocks_1 fX5_56 rfl rfl (by assumption) ?_
  refine g_tableIn (off := 64) 68 dX5_tieToBlocks_4 (by rw [hv]; decide) (by rw [hv]; decide) (by rw [hv]; rfl) (by decide) ?_
  refine g_aload_n dX5_tieToBlocks_68 rfl ?_
  refine g_new 1 4 dX5_tieToBlocks_69 nX5_41 rfl ?_
  refine g_dup dX5_tieToBlocks_72 rfl ?_
  refine g_aload_n dX5_tieToBlocks_73 rfl ?_
  refine g_aload_n dX5_tieToBlocks_74 rfl ?_
  refine g_getN 5 2 322 dX5_tieToBlocks_75 fX5_25 rfl rfl r2 a2 ?_
  refine g_callI (d1 := d - 1) (As := [_, _]) dX5_tieToBlocks_78 iX5_65 (by omega) rfl rfl (Nat.le_of_ble_eq_true rfl) ?_
  refine c_Block_init0 hb (by omega) ?_
  refine g_putR 5 2 322 dX5_tieToBlocks_81 fX5_25 rfl rfl rfl rfl r2 ?_
  refine g_aload_n dX5_tieToBlocks_84 rfl ?_
  refine g_dup dX5_tieToBlocks_85 rfl ?_
  refine g_getI 5 4 324 dX5_tieToBlocks_86 fX5_22 rfl rfl r2 ?_
  refine g_iconstV (v := 1) dX5_tieToBlocks_89 (by decide) ?_
  refine g_iadd dX5_tieToBlocks_90 ?_
  refine g_putI 5 4 324 dX5_tieToBlocks_91 fX5_22 rfl rfl r2 ?_
  refine g_goto 123 dX5_tieToBlocks_94 (by decide) ?_
  refine g_vret dX5_tieToBlocks_123 rfl ?_
  exact k
set_option maxHeartbeats 4000000 in
set_option maxRecDepth 20000 in
theorem c_tie4S {g : GE} {d : Nat} {w : GW} {Q : Option Value → GW → Prop} (hd : 2 ≤ d) {n rt : Nat} (hr : gOb g w rt 5) (hn : gOb g w n 7) (hv : gI w 448 n = 4) {a : Nat} (hB : eB g ≤ gN w) (ha : gR w 322 rt = (some a)) (k : Q none (opW w rt n (some a))) : gM g d mX5_tieToBlocks [.ref rt, .ref n] w Q := by
  refine gM.of (by decide) (Nat.le_of_ble_eq_true rfl) ?_
  have r2 := gOb_newO (c := 1) (N := 4) hr
  have a2 : gR (newO w 1 4) 322 rt = (some a) := by rw [gR_newO, nul2, if_neg (Nat.ne_of_lt hr.2.1)]; exact ha
  have hb := gOb_selfO (g := g) (ci := 1) (N := 4) hB
  have e9 : gI (newO w 1 4) 324 rt = gI w 324 rt := by rw [gI_newO, nul2, if_neg (Nat.ne_of_lt hr.2.1)]
  unfold opW at k
  rw [← e9] at k
  refine g_aload_n dX5_tieToBlocks_0 rfl ?_
  refine g_getI 7 0 448 dX5_tieToBlocks_1 fX5_56 rfl rfl (by assumption) ?_
  refine g_tableIn (off := 64) 68 dX5_tieToBlocks_4 (by rw [hv]; decide) (by rw [hv]; decide) (by rw [hv]; rfl) (by decide) ?_
  refine g_aload_n dX5_tieToBlocks_68 rfl ?_
  refine g_new 1 4 dX5_tieToBlocks_69 nX5_41 rfl ?_
  refine g_dup dX5_tieToBlocks_72 rfl ?_
  refine g_aload_n dX5_tieToBlocks_73 rfl ?_
  refine g_aload_n dX5_tieToBlocks_74 rfl ?_
  refine g_getR 5 2 322 dX5_tieToBlocks_75 fX5_25 rfl rfl r2 a2 ?_
  refine g_callI (d1 := d - 1) (As := [_, _]) dX5_tieToBlocks_78 iX5_65 (by omega) rfl rfl (Nat.le_of_ble_eq_true rfl) ?_
  refine c_Block_init hb (by omega) ?_
  refine g_putR 5 2 322 dX5_tieToBlocks_81 fX5_25 rfl rfl rfl rfl r2 ?_
  refine g_aload_n dX5_tieToBlocks_84 rfl ?_
  refine g_dup dX5_tieToBlocks_85 rfl ?_
  refine g_getI 5 4 324 dX5_tieToBlocks_86 fX5_22 rfl rfl r2 ?_
  refine g_iconstV (v := 1) dX5_tieToBlocks_89 (by decide) ?_
  refine g_iadd dX5_tieToBlocks_90 ?_
  refine g_putI 5 4 324 dX5_tieToBlocks_91 fX5_22 rfl rfl r2 ?_
  refine g_goto 123 dX5_tieToBlocks_94 (by decide) ?_
  refine g_vret dX5_tieToBlocks_123 rfl ?_
  exact k
theorem c_tie4 {g : GE} {d : Nat} {w : GW} {Q : Option Value → GW → Prop} (hd : 2 ≤ d) {n rt : Nat} {a : Option Nat} (hr : gOb g w rt 5) (hn : gOb g w n 7) (hv : gI w 448 n = 4) (hB : eB g ≤ gN w) (ha : gR w 322 rt = a) (k : Q none (opW w rt n a)) : gM g d mX5_tieToBlocks [.ref rt, .ref n] w Q := by
  cases a with
  | none => exact c_tie4N hd hr hn hv hB ha k
  | some a => exact c_tie4S hd hr hn hv hB ha k
set_option maxHeartbeats 4000000 in
set_option maxRecDepth 20000 in
theorem c_tie11N {g : GE} {d : Nat} {w : GW} {Q : Option Value → GW → Prop} (hd : 2 ≤ d) {n rt : Nat} (hr : gOb g w rt 5) (hn : gOb g w n 7) (hv : gI w 448 n = 11) (hB : eB g ≤ gN w) (ha : gR w 322 rt = none) (k : Q none (opW w rt n none)) : gM g d mX5_tieToBlocks [.ref rt, .ref n] w Q := by
  refine gM.of (by decide) (Nat.le_of_ble_eq_true rfl) ?_
  have r2 := gOb_newO (c := 1) (N := 4) hr
  have a2 : gR (newO w 1 4) 322 rt = none := by rw [gR_newO, nul2, if_neg (Nat.ne_of_lt hr.2.1)]; exact ha
  have hb := gOb_selfO (g := g) (ci := 1) (N := 4) hB
  have e9 : gI (newO w 1 4) 324 rt = gI w 324 rt := by rw [gI_newO, nul2, if_neg (Nat.ne_of_lt hr.2.1)]
  unfold opW at k
  rw [← e9] at k
  refine g_aload_n dX5_tieToBlocks_0 rfl ?_
  refine g_getI 7 0 448 dX5_tieToBlocks_1 fX5_56 rfl rfl (by assumption) ?_
  refine g_tableIn (off := 64) 68 dX5_tieToBlocks_4 (by rw [hv]; decide) (by rw [hv]; decide) (by rw [hv]; rfl) (by decide) ?_
  refine g_aload_n dX5_tieToBlocks_68 rfl ?_
  refine g_new 1 4 dX5_tieToBlocks_69 nX5_41 rfl ?_
  refine g_dup dX5_tieToBlocks_72 rfl ?_
  refine g_aload_n dX5_tieToBlocks_73 rfl ?_
  refine g_aload_n dX5_tieToBlocks_74 rfl ?_
  refine g_getN 5 2 322 dX5_tieToBlocks_75 fX5_25 rfl rfl r2 a2 ?_
  refine g_callI (d1 := d - 1) (As := [_, _]) dX5_tieToBlocks_78 iX5_65 (by omega) rfl rfl (Nat.le_of_ble_eq_true rfl) ?_
  refine c_Block_init0 hb (by omega) ?_
  refine g_putR 5 2 322 dX5_tieToBlocks_81 fX5_25 rfl rfl rfl rfl r2 ?_
  refine g_aload_n dX5_tieToBlocks_84 rfl ?_
  refine g_dup dX5_tieToBlocks_85 rfl ?_
  refine g_getI 5 4 324 dX5_tieToBlocks_86 fX5_22 rfl rfl r2 ?_
  refine g_iconstV (v := 1) dX5_tieToBlocks_89 (by decide) ?_
  refine g_iadd dX5_tieToBlocks_90 ?_
  refine g_putI 5 4 324 dX5_tieToBlocks_91 fX5_22 rfl rfl r2 ?_
  refine g_goto 123 dX5_tieToBlocks_94 (by decide) ?_
  refine g_vret dX5_tieToBlocks_123 rfl ?_
  exact k
set_option maxHeartbeats 4000000 in
set_option maxRecDepth 20000 in
theorem c_tie11S {g : GE} {d : Nat} {w : GW} {Q : Option Value → GW → Prop} (hd : 2 ≤ d) {n rt : Nat} (hr : gOb g w rt 5) (hn : gOb g w n 7) (hv : gI w 448 n = 11) {a : Nat} (hB : eB g ≤ gN w) (ha : gR w 322 rt = (some a)) (k : Q none (opW w rt n (some a))) : gM g d mX5_tieToBlocks [.ref rt, .ref n] w Q := by
  refine gM.of (by decide) (Nat.le_of_ble_eq_true rfl) ?_
  have r2 := gOb_newO (c := 1) (N := 4) hr
  have a2 : gR (newO w 1 4) 322 rt = (some a) := by rw [gR_newO, nul2, if_neg (Nat.ne_of_lt hr.2.1)]; exact ha
  have hb := gOb_selfO (g := g) (ci := 1) (N := 4) hB
  have e9 : gI (newO w 1 4) 324 rt = gI w 324 rt := by rw [gI_newO, nul2, if_neg (Nat.ne_of_lt hr.2.1)]
  unfold opW at k
  rw [← e9] at k
  refine g_aload_n dX5_tieToBlocks_0 rfl ?_
  refine g_getI 7 0 448 dX5_tieToBlocks_1 fX5_56 rfl rfl (by assumption) ?_
  refine g_tableIn (off := 64) 68 dX5_tieToBlocks_4 (by rw [hv]; decide) (by rw [hv]; decide) (by rw [hv]; rfl) (by decide) ?_
  refine g_aload_n dX5_tieToBlocks_68 rfl ?_
  refine g_new 1 4 dX5_tieToBlocks_69 nX5_41 rfl ?_
  refine g_dup dX5_tieToBlocks_72 rfl ?_
  refine g_aload_n dX5_tieToBlocks_73 rfl ?_
  refine g_aload_n dX5_tieToBlocks_74 rfl ?_
  refine g_getR 5 2 322 dX5_tieToBlocks_75 fX5_25 rfl rfl r2 a2 ?_
  refine g_callI (d1 := d - 1) (As := [_, _]) dX5_tieToBlocks_78 iX5_65 (by omega) rfl rfl (Nat.le_of_ble_eq_true rfl) ?_
  refine c_Block_init hb (by omega) ?_
  refine g_putR 5 2 322 dX5_tieToBlocks_81 fX5_25 rfl rfl rfl rfl r2 ?_
  refine g_aload_n dX5_tieToBlocks_84 rfl ?_
  refine g_dup dX5_tieToBlocks_85 rfl ?_
  refine g_getI 5 4 324 dX5_tieToBlocks_86 fX5_22 rfl rfl r2 ?_
  refine g_iconstV (v := 1) dX5_tieToBlocks_89 (by decide) ?_
  refine g_iadd dX5_tieToBlocks_90 ?_
  refine g_putI 5 4 324 dX5_tieToBlocks_91 fX5_22 rfl rfl r2 ?_
  refine g_goto 123 dX5_tieToBlocks_94 (by decide) ?_
  refine g_vret dX5_tieToBlocks_123 rfl ?_
  exact k
theorem c_tie11 {g : GE} {d : Nat} {w : GW} {Q : Option Value → GW → Prop} (hd : 2 ≤ d) {n rt : Nat} {a : Option Nat} (hr : gOb g w rt 5) (hn : gOb g w n 7) (hv : gI w 448 n = 11) (hB : eB g ≤ gN w) (ha : gR w 322 rt = a) (k : Q none (opW w rt n a)) : gM g d mX5_tieToBlocks [.ref rt, .ref n] w Q := by
  cases a with
  | none => exact c_tie11N hd hr hn hv hB ha k
  | some a => exact c_tie11S hd hr hn hv hB ha k
set_option maxHeartbeats 4000000 in
set_option maxRecDepth 20000 in
theorem c_tie5 {g : GE} {d : Nat} {w : GW} {Q : Option Value → GW → Prop} {n rt : Nat} (hr : gOb g w rt 5) (hn : gOb g w n 7) (hv : gI w 448 n = 5) (k : Q none w) : gM g d mX5_tieToBlocks [.ref rt, .ref n] w Q := by
  refine gM.of (by decide) (Nat.le_of_ble_eq_true rfl) ?_
  refine g_aload_n dX5_tieToBlocks_0 rfl ?_
  refine g_getI 7 0 448 dX5_tieToBlocks_1 fX5_56 rfl rfl (by assumption) ?_
  refine g_tableIn (off := 119) 123 dX5_tieToBlocks_4 (by rw [hv]; decide) (by rw [hv]; decide) (by rw [hv]; rfl) (by decide) ?_
  refine g_vret dX5_tieToBlocks_123 rfl ?_
  exact k
set_option maxHeartbeats 4000000 in
set_option maxRecDepth 20000 in
theorem c_tie6 {g : GE} {d : Nat} {w : GW} {Q : Option Value → GW → Prop} {n rt : Nat} (hr : gOb g w rt 5) (hn : gOb g w n 7) (hv : gI w 448 n = 6) (k : Q none w) : gM g d mX5_tieToBlocks [.ref rt, .ref n] w Q := by
  refine gM.of (by decide) (Nat.le_of_ble_eq_true rfl) ?_
  refine g_aload_n dX5_tieToBlocks_0 rfl ?_
  refine g_getI 7 0 448 dX5_tieToBlocks_1 fX5_56 rfl rfl (by assumption) ?_
  refine g_tableIn (off := 119) 123 dX5_tieToBlocks_4 (by rw [hv]; decide) (by rw [hv]; decide) (by rw [hv]; rfl) (by decide) ?_
  refine g_vret dX5_tieToBlocks_123 rfl ?_
  exact k
set_option maxHeartbeats 4000000 in
set_option maxRecDepth 20000 in
theorem c_tie7 {g : GE} {d : Nat} {w : GW} {Q : Option Value → GW → Prop} {n rt : Nat} (hr : gOb g w rt 5) (hn : gOb g w n 7) (hv : gI w 448 n = 7) (k : Q none w) : gM g d mX5_tieToBlocks [.ref rt, .ref n] w Q := by
  refine gM.of (by decide) (Nat.le_of_ble_eq_true rfl) ?_
  refine g_aload_n dX5_tieToBlocks_0 rfl ?_
  refine g_getI 7 0 448 dX5_tieToBlocks_1 fX5_56 rfl rfl (by assumption) ?_
  refine g_tableIn (off := 119) 123 dX5_tieToBlocks_4 (by rw [hv]; decide) (by rw [hv]; decide) (by rw [hv]; rfl) (by decide) ?_
  refine g_vret dX5_tieToBlocks_123 rfl ?_
  exact k
set_option maxHeartbeats 4000000 in
set_option maxRecDepth 20000 in
theorem c_tie8 {g : GE} {d : Nat} {w : GW} {Q : Option Value → GW → Prop} {n rt : Nat} (hr : gOb g w rt 5) (hn : gOb g w n 7) (hv : gI w 448 n = 8) (k : Q none w) : gM g d mX5_tieToBlocks [.ref rt, .ref n] w Q := by
  refine gM.of (by decide) (Nat.le_of_ble_eq_true rfl) ?_
  refine g_aload_n dX5_tieToBlocks_0 rfl ?_
  refine g_getI 7 0 448 dX5_tieToBlocks_1 fX5_56 rfl rfl (by assumption) ?_
  refine g_tableIn (off := 119) 123 dX5_tieToBlocks_4 (by rw [hv]; decide) (by rw [hv]; decide) (by rw [hv]; rfl) (by decide) ?_
  refine g_vret dX5_tieToBlocks_123 rfl ?_
  exact k
set_option maxHeartbeats 4000000 in
set_option maxRecDepth 20000 in
theorem c_tie9 {g : GE} {d : Nat} {w : GW} {Q : Option Value → GW → Prop} {n rt : Nat} (hr : gOb g w rt 5) (hn : gOb g w n 7) (hv : gI w 448 n = 9) (k : Q none w) : gM g d mX5_tieToBlocks [.ref rt, .ref n] w Q := by
  refine gM.of (by decide) (Nat.le_of_ble_eq_true rfl) ?_
  refine g_aload_n dX5_tieToBlocks_0 rfl ?_
  refine g_getI 7 0 448 dX5_tieToBlocks_1 fX5_56 rfl rfl (by assumption) ?_
  refine g_tableIn (off := 119) 123 dX5_tieToBlocks_4 (by rw [hv]; decide) (by rw [hv]; decide) (by rw [hv]; rfl) (by decide) ?_
  refine g_vret dX5_tieToBlocks_123 rfl ?_
  exact k
set_option maxHeartbeats 4000000 in
set_option maxRecDepth 20000 in
theorem c_tie10 {g : GE} {d : Nat} {w : GW} {Q : Option Value → GW → Prop} {n rt : Nat} (hr : gOb g w rt 5) (hn : gOb g w n 7) (hv : gI w 448 n = 10) (k : Q none w) : gM g d mX5_tieToBlocks [.ref rt, .ref n] w Q := by
  refine gM.of (by decide) (Nat.le_of_ble_eq_true rfl) ?_
  refine g_aload_n dX5_tieToBlocks_0 rfl ?_
  refine g_getI 7 0 448 dX5_tieToBlocks_1 fX5_56 rfl rfl (by assumption) ?_
  refine g_tableIn (off := 119) 123 dX5_tieToBlocks_4 (by rw [hv]; decide) (by rw [hv]; decide) (by rw [hv]; rfl) (by decide) ?_
  refine g_vret dX5_tieToBlocks_123 rfl ?_
  exact k
set_option maxHeartbeats 4000000 in
set_option maxRecDepth 20000 in
theorem c_tie12 {g : GE} {d : Nat} {w : GW} {Q : Option Value → GW → Prop} {n rt v : Nat} (hr : gOb g w rt 5) (hn : gOb g w n 7) (hv : gI w 448 n = nI v) (h12 : 12 ≤ v) (h25 : v < 25) (k : Q none w) : gM g d mX5_tieToBlocks [.ref rt, .ref n] w Q := by
  refine gM.of (by decide) (Nat.le_of_ble_eq_true rfl) ?_
  refine g_aload_n dX5_tieToBlocks_0 rfl ?_
  refine g_getI 7 0 448 dX5_tieToBlocks_1 fX5_56 rfl rfl (by assumption) ?_
  refine g_tableOut 123 dX5_tieToBlocks_4 (Or.inr ?_) (by decide) ?_
  · rw [hv, nI_toInt (by omega)]; omega
  refine g_vret dX5_tieToBlocks_123 rfl ?_
  exact k
theorem c_tiePlain {g : GE} {d : Nat} {w : GW} {Q : Option Value → GW → Prop} {n rt v : Nat} (hr : gOb g w rt 5) (hn : gOb g w n 7) (hv : gI w 448 n = nI v) (h5 : v = 5 ∨ v = 6 ∨ v = 7 ∨ v = 8 ∨ v = 9 ∨ v = 10 ∨ 12 ≤ v) (h25 : v < 25) (k : Q none w) : gM g d mX5_tieToBlocks [.ref rt, .ref n] w Q := by
  rcases h5 with rfl | rfl | rfl | rfl | rfl | rfl | h5
  · exact c_tie5 hr hn hv k
  · exact c_tie6 hr hn hv k
  · exact c_tie7 hr hn hv k
  · exact c_tie8 hr hn hv k
  · exact c_tie9 hr hn hv k
  · exact c_tie10 hr hn hv k
  · exact c_tie12 hr hn hv h5 h25 k
set_option maxHeartbeats 4000000 in
set_option maxRecDepth 20000 in
theorem c_appendNo {g : GE} {d : Nat} {w : GW} {Q : Option Value → GW → Prop} (hd : 2 ≤ d) {P : PG} {O : Nat → Nat} {r : Nat} {wh : Nat → Int32} {bs : List (Nat × Nat × Nat)} {s v : Nat} {a b c : Int32} (hS : SK g w) (hr4 : r < 4) (hB : BC g P O w r bs (gR w 322 (aRt g r))) (hs : ∀ b ∈ bs, SOK g P w wh r b) (hx : ∀ b ∈ bs, b.2.2 ≤ 3) (ho : gI w 324 (aRt g r) = nI bs.length) (hl : bs.length ≤ 6) (hv : v < 25) (hm : fMay wh v bs = 0) (k : Q (some (.int (-2))) w) : gM g d mX5_append [.ref (aRt g r), .int (nI v), .int a, .int b, .int c] w Q := by
  refine gM.of (by decide) (Nat.le_of_ble_eq_true rfl) ?_
  obtain ⟨oR, oS, lS, rS, iR, pR⟩ := hS.rt hr4
  refine g_aload_n dX5_append_0 rfl ?_
  refine g_iload_n dX5_append_1 rfl ?_
  refine g_callV (d1 := d - 1) (As := [_]) 5 dX5_append_2 vX5_29 (by omega) (by assumption) rfl rfl (Nat.le_of_ble_eq_true rfl) ?_
  refine c_mayStand (by omega) oR hB hs hx ho hl hv ?_
  refine g_if_ne 11 dX5_append_5 (by decide) (fun q => absurd (hm) q) (fun _ => ?_)
  refine g_bipushV (v := -2) dX5_append_8 (by decide) ?_
  refine g_iret dX5_append_10 rfl ?_
  exact k
set_option maxHeartbeats 4000000 in
set_option maxRecDepth 20000 in
theorem c_appendFull {g : GE} {d : Nat} {w : GW} {Q : Option Value → GW → Prop} (hd : 2 ≤ d) {P : PG} {O : Nat → Nat} {r : Nat} {wh : Nat → Int32} {bs : List (Nat × Nat × Nat)} {s v : Nat} {a b c : Int32} (hS : SK g w) (hr4 : r < 4) (hB : BC g P O w r bs (gR w 322 (aRt g r))) (hs : ∀ b ∈ bs, SOK g P w wh r b) (hx : ∀ b ∈ bs, b.2.2 ≤ 3) (ho : gI w 324 (aRt g r) = nI bs.length) (hl : bs.length ≤ 6) (hv : v < 25) (hm : fMay wh v bs = 1) (hu : gI w 323 (aRt g r) = nI 40) (k : Q (some (.int (-3))) w) : gM g d mX5_append [.ref (aRt g r), .int (nI v), .int a, .int b, .int c] w Q := by
  refine gM.of (by decide) (Nat.le_of_ble_eq_true rfl) ?_
  obtain ⟨oR, oS, lS, rS, iR, pR⟩ := hS.rt hr4
  refine g_aload_n dX5_append_0 rfl ?_
  refine g_iload_n dX5_append_1 rfl ?_
  refine g_callV (d1 := d - 1) (As := [_]) 5 dX5_append_2 vX5_29 (by omega) (by assumption) rfl rfl (Nat.le_of_ble_eq_true rfl) ?_
  refine c_mayStand (by omega) oR hB hs hx ho hl hv ?_
  refine g_if_ne 11 dX5_append_5 (by decide) (fun _ => ?_) (fun q => absurd q (by rw [hm]; decide))
  refine g_aload_n dX5_append_11 rfl ?_
  refine g_getI 5 3 323 dX5_append_12 fX5_19 rfl rfl (by assumption) ?_
  refine g_if_lt 27 dX5_append_15 (by decide) (fun q => absurd q (by rw [hu]; decide)) (fun _ => ?_)
  refine g_aload_n dX5_append_18 rfl ?_
  refine g_getI 5 3 323 dX5_append_19 fX5_19 rfl rfl (by assumption) ?_
  refine g_bipushV (v := 40) dX5_append_22 (by decide) ?_
  refine g_icmp_lt 30 dX5_append_24 (by decide) (fun q => absurd q (by rw [hu]; decide)) (fun _ => ?_)
  refine g_bipushV (v := -3) dX5_append_27 (by decide) ?_
  refine g_iret dX5_append_29 rfl ?_
  exact k
set_option maxHeartbeats 4000000 in
set_option maxRecDepth 20000 in
theorem c_appendOn {g : GE} {d : Nat} {w : GW} {Q : Option Value → GW → Prop} (hd : 2 ≤ d) {P : PG} {O : Nat → Nat} {r : Nat} {wh : Nat → Int32} {bs : List (Nat × Nat × Nat)} {s v : Nat} {a b c : Int32} (hS : SK g w) (hr4 : r < 4) (hB : BC g P O w r bs (gR w 322 (aRt g r))) (hs : ∀ b ∈ bs, SOK g P w wh r b) (hx : ∀ b ∈ bs, b.2.2 ≤ 3) (ho : gI w 324 (aRt g r) = nI bs.length) (hl : bs.length ≤ 6) (hv : v < 25) (hm : fMay wh v bs = 1) (hu : gI w 323 (aRt g r) = nI s) (hs40 : s < 40) {w2 : GW} (hT : Ans g (d - 1) mX5_tieToBlocks [.ref (aRt g r), .ref (gN w)] (apW g w r s (nI v) a b c) none w2) (hu2 : gI w2 323 (aRt g r) = nI (s + 1)) (oR2 : gOb g w2 (aRt g r) 5) (k : Q (some (.int (nI (s + 1)))) w2) : gM g d mX5_append [.ref (aRt g r), .int (nI v), .int a, .int b, .int c] w Q := by
  refine gM.of (by decide) (Nat.le_of_ble_eq_true rfl) ?_
  obtain ⟨oR, oS, lS, rS, iR, pR⟩ := hS.rt hr4
  have hB0 : eB g ≤ gN w := by have := hS.1; omega
  have r2 := gOb_newO (c := 7) (N := 8) oR
  have s2 := gOb_newO (c := 7) (N := 8) oS
  have hq := gOb_selfO (g := g) (ci := 7) (N := 8) hB0
  have e3 : ∀ f, gI (newO w 7 8) f (aRt g r) = gI w f (aRt g r) := fun f => by rw [gI_newO, nul2, if_neg (Nat.ne_of_lt oR.2.1)]
  have eR : gR (newO w 7 8) 321 (aRt g r) = some (aSt g r) := by rw [gR_newO, nul2, if_neg (Nat.ne_of_lt oR.2.1)]; exact rS
  have hne : ¬ aRt g r = gN w := Nat.ne_of_lt oR.2.1
  have eS : gI (setS (newO w 7 8) (gN w) (nI v) a b c (nI s) (nI (40 * r + s))) 323 (aRt g r) = nI s := by
    unfold setS
    rw [gI_setI, up2_ne _ _ (by omega), gI_setI, up2_ne _ _ (by omega), gI_setI, up2_ne _ _ (by omega), gI_setI, up2_ne _ _ (by omega), gI_setI, up2_ne _ _ (by omega), gI_setI, up2_ne _ _ (by omega), gI_setI, up2_ne _ _ (by omega), e3, hu]
  have eP : (40 : Int32) * nI r + nI s = nI (40 * r + s) := by rw [show (40 : Int32) = nI 40 from rfl, pk_mul, nI_add]
  have eL : gL (setS (newO w 7 8) (gN w) (nI v) a b c (nI s) (nI (40 * r + s))) (aSt g r) = 40 := lS
  refine g_aload_n dX5_append_0 rfl ?_
  refine g_iload_n dX5_append_1 rfl ?_
  refine g_callV (d1 := d - 1) (As := [_]) 5 dX5_append_2 vX5_29 (by omega) (by assumption) rfl rfl (Nat.le_of_ble_eq_true rfl) ?_
  refine c_mayStand (by omega) oR hB hs hx ho hl hv ?_
  refine g_if_ne 11 dX5_append_5 (by decide) (fun _ => ?_) (fun q => absurd q (by rw [hm]; decide))
  refine g_aload_n dX5_append_11 rfl ?_
  refine g_getI 5 3 323 dX5_append_12 fX5_19 rfl rfl (by assumption) ?_
  refine g_if_lt 27 dX5_append_15 (by decide) (fun q => absurd q (by rw [hu]; exact nI_pos (by omega))) (fun _ => ?_)
  refine g_aload_n dX5_append_18 rfl ?_
  refine g_getI 5 3 323 dX5_append_19 fX5_19 rfl rfl (by assumption) ?_
  refine g_bipushV (v := 40) dX5_append_22 (by decide) ?_
  refine g_icmp_lt 30 dX5_append_24 (by decide) (fun _ => ?_) (fun q => absurd (by rw [hu]; exact nI_lt (b := 40) hs40 (by decide)) q)
  refine g_new 7 8 dX5_append_30 nX5_13 rfl ?_
  refine g_dup dX5_append_33 rfl ?_
  refine g_iload_n dX5_append_34 rfl ?_
  refine g_iload_n dX5_append_35 rfl ?_
  refine g_iload_n dX5_append_36 rfl ?_
  refine g_iload dX5_append_37 rfl ?_
  refine g_aload_n dX5_append_39 rfl ?_
  refine g_getI 5 3 323 dX5_append_40 fX5_19 rfl rfl r2 ?_
  rw [e3, hu]
  refine g_bipushV (v := 40) dX5_append_43 (by decide) ?_
  refine g_aload_n dX5_append_45 rfl ?_
  refine g_getI 5 0 320 dX5_append_46 fX5_7 rfl rfl r2 ?_
  rw [e3, iR]
  refine g_imul dX5_append_49 ?_
  refine g_aload_n dX5_append_50 rfl ?_
  refine g_getI 5 3 323 dX5_append_51 fX5_19 rfl rfl r2 ?_
  rw [e3, hu]
  refine g_iadd dX5_append_54 ?_
  rw [eP]
  refine g_callI (d1 := d - 1) (As := [_, _, _, _, _, _]) dX5_append_55 iX5_33 (by omega) rfl rfl (Nat.le_of_ble_eq_true rfl) ?_
  refine c_Step_init hq (by omega) ?_
  refine g_astore dX5_append_58 (by decide) rfl ?_
  refine g_aload_n dX5_append_60 rfl ?_
  refine g_getR 5 1 321 dX5_append_61 fX5_15 rfl rfl r2 eR ?_
  refine g_aload_n dX5_append_64 rfl ?_
  refine g_getI 5 3 323 dX5_append_65 fX5_19 rfl rfl r2 ?_
  rw [eS]
  refine g_aload dX5_append_68 rfl ?_
  refine g_aast15 dX5_append_70 s2 rfl (by rw [eL]; exact hs40) hq ?_
  refine g_aload_n dX5_append_71 rfl ?_
  refine g_dup dX5_append_72 rfl ?_
  refine g_getI 5 3 323 dX5_append_73 fX5_19 rfl rfl r2 ?_
  rw [show gI (setP (setS (newO w 7 8) (gN w) (nI v) a b c (nI s) (nI (40 * r + s))) (aSt g r) s (some (gN w))) 323 (aRt g r) = nI s from eS]
  refine g_iconstV (v := 1) dX5_append_76 (by decide) ?_
  refine g_iadd dX5_append_77 ?_
  rw [show nI s + 1 = nI (s + 1) from nI_1 s]
  refine g_putI 5 3 323 dX5_append_78 fX5_19 rfl rfl r2 ?_
  refine g_aload_n dX5_append_81 rfl ?_
  refine g_aload dX5_append_82 rfl ?_
  refine g_callV (d1 := d - 1) (As := [_]) 5 dX5_append_84 vX5_36 (by omega) r2 rfl rfl (Nat.le_of_ble_eq_true rfl) ?_
  refine hT _ ?_
  refine g_aload_n dX5_append_87 rfl ?_
  refine g_getI 5 3 323 dX5_append_88 fX5_19 rfl rfl oR2 ?_
  rw [hu2]
  refine g_iret dX5_append_91 rfl ?_
  exact k
set_option maxHeartbeats 4000000 in
set_option maxRecDepth 20000 in
theorem c_forget {g : GE} {d : Nat} {w : GW} {Q : Option Value → GW → Prop} {r : Nat} (hS : SK g w) (hr4 : r < 4) (k : Q (some (.int (gI w 323 (aRt g r)))) (setR (setI (setI w 323 (aRt g r) 0) 324 (aRt g r) 0) 322 (aRt g r) none)) : gM g d mX5_forget [.ref (aRt g r)] w Q := by
  refine gM.of (by decide) (Nat.le_of_ble_eq_true rfl) ?_
  obtain ⟨oR, oS, lS, rS, iR, pR⟩ := hS.rt hr4
  refine g_aload_n dX5_forget_0 rfl ?_
  refine g_getI 5 3 323 dX5_forget_1 fX5_19 rfl rfl (by assumption) ?_
  refine g_istore_n dX5_forget_4 (by decide) rfl ?_
  refine g_aload_n dX5_forget_5 rfl ?_
  refine g_iconstV (v := 0) dX5_forget_6 (by decide) ?_
  refine g_putI 5 3 323 dX5_forget_7 fX5_19 rfl rfl (by assumption) ?_
  refine g_aload_n dX5_forget_10 rfl ?_
  refine g_iconstV (v := 0) dX5_forget_11 (by decide) ?_
  refine g_putI 5 4 324 dX5_forget_12 fX5_22 rfl rfl (by assumption) ?_
  refine g_aload_n dX5_forget_15 rfl ?_
  refine g_null dX5_forget_16 ?_
  refine g_putN 5 2 322 dX5_forget_17 fX5_25 rfl rfl rfl rfl oR ?_
  refine g_iload_n dX5_forget_20 rfl ?_
  refine g_iret dX5_forget_21 rfl ?_
  exact k
