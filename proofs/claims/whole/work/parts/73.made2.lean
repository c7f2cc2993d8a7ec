def vM1 : GW := newA vM0 11 160
def vM2 : GW := setR vM1 576 70 (some 71)
def vM3 : GW := newA vM2 11 160
def vM4 : GW := setR vM3 577 70 (some 72)
def vM5 : GW := newA vM4 11 160
def vM6 : GW := setR vM5 578 70 (some 73)
def vM7 : GW := newA vM6 11 160
def vM8 : GW := setR vM7 579 70 (some 74)
def vM9 : GW := newA vM8 11 160
def vM10 : GW := setR vM9 580 70 (some 75)
def vM11 : GW := newA vM10 11 160
def vM12 : GW := setR vM11 581 70 (some 76)
def vM13 : GW := newA vM12 11 4
def vM14 : GW := setR vM13 582 70 (some 77)
def vM15 : GW := newA vM14 11 4
def vM16 : GW := setR vM15 583 70 (some 78)
def vM17 : GW := newA vM16 11 24
def vM18 : GW := setR vM17 584 70 (some 79)
def vM19 : GW := newA vM18 11 24
def vM20 : GW := setR vM19 585 70 (some 80)
def vM21 : GW := newA vM20 11 24
def vM22 : GW := setR vM21 586 70 (some 81)
def vM23 : GW := newA vM22 10 8
def vM24 : GW := setR vM23 588 70 (some 82)
def vM25 : GW := newA vM24 12 18
def vM26 : GW := setR vM25 589 70 (some 83)
def vM27 : GW := newA vM26 11 18
def vM28 : GW := setR vM27 590 70 (some 84)
def vM29 : GW := newA vM28 10 288
def vM30 : GW := setR vM29 591 70 (some 85)
def vM31 : GW := newA vM30 12 288
def vM32 : GW := setR vM31 592 70 (some 86)
def vM33 : GW := newA vM32 11 600
def vM34 : GW := setR vM33 593 70 (some 87)
def vM35 : GW := newA vM34 11 600
def vM36 : GW := setR vM35 594 70 (some 88)
def vM37 : GW := newA vM36 11 600
def vM38 : GW := setR vM37 595 70 (some 89)
def vM39 : GW := newA vM38 11 600
def vM40 : GW := setR vM39 596 70 (some 90)
def vM41 : GW := newA vM40 11 600
def vM42 : GW := setR vM41 597 70 (some 91)
def vM43 : GW := setI vM42 599 70 (-1)
def vM44 : GW := newA vM43 11 60
def vM45 : GW := setR vM44 600 70 (some 92)
def vM46 : GW := newA vM45 11 60
def vM47 : GW := setR vM46 601 70 (some 93)
def vM48 : GW := newA vM47 11 60
def vM49 : GW := setR vM48 602 70 (some 94)
def vM50 : GW := newA vM49 11 60
def vM51 : GW := setR vM50 603 70 (some 95)
def vM52 : GW := newA vM51 11 60
def vM53 : GW := setR vM52 604 70 (some 96)
def vM54 : GW := newA vM53 10 1000
def vM55 : GW := setR vM54 613 70 (some 97)
def vM56 : GW := newA vM55 11 12
def vM57 : GW := setA vM56 98 0 (0)
def vM58 : GW := setA vM57 98 1 (0)
def vM59 : GW := setA vM58 98 2 (1)
def vM60 : GW := setA vM59 98 3 (2)
def vM61 : GW := setA vM60 98 4 (2)
def vM62 : GW := setA vM61 98 5 (2)
def vM63 : GW := setA vM62 98 6 (1)
def vM64 : GW := setA vM63 98 7 (6)
def vM65 : GW := setA vM64 98 8 (6)
def vM66 : GW := setA vM65 98 9 (1)
def vM67 : GW := setA vM66 98 10 (1)
def vM68 : GW := setA vM67 98 11 (9)
def vM69 : GW := setR vM68 615 70 (some 98)
set_option maxHeartbeats 4000000 in
set_option maxRecDepth 20000 in
theorem c_initModel {g : GE} {d : Nat} {w : GW} {Q : Option Value → GW → Prop} (hd : 1 ≤ d) (hS : Sh g w vM0) (k : ∀ W, Sh g W vM69 → Q none W) : gM g d mX10_init [.ref (eB g + 70)] w Q := by
  refine gM.of (by decide) (Nat.le_of_ble_eq_true rfl) ?_
  refine g_aload_n dX10_init_0 rfl ?_
  refine g_objInit dX10_init_1 oX10_1 (by omega) (Nat.le_of_ble_eq_true rfl) ?_
  refine g_aload_n dX10_init_4 rfl ?_
  refine g_sipushV (v := 160) dX10_init_5 (by decide) ?_
  refine s_newI 160 71 hS dX10_init_8 (by decide) (by decide) (by decide +kernel) ?_
  intro w hS
  change Sh g w vM1 at hS
  refine s_putFR 9 0 576 70 71 hS dX10_init_10 fX10_7 rfl rfl rfl rfl rfl rfl (by decide +kernel) ?_
  intro w hS
  change Sh g w vM2 at hS
  refine g_aload_n dX10_init_13 rfl ?_
  refine g_sipushV (v := 160) dX10_init_14 (by decide) ?_
  refine s_newI 160 72 hS dX10_init_17 (by decide) (by decide) (by decide +kernel) ?_
  intro w hS
  change Sh g w vM3 at hS
  refine s_putFR 9 1 577 70 72 hS dX10_init_19 fX10_13 rfl rfl rfl rfl rfl rfl (by decide +kernel) ?_
  intro w hS
  change Sh g w vM4 at hS
  refine g_aload_n dX10_init_22 rfl ?_
  refine g_sipushV (v := 160) dX10_init_23 (by decide) ?_
  refine s_newI 160 73 hS dX10_init_26 (by decide) (by decide) (by decide +kernel) ?_
  intro w hS
  change Sh g w vM5 at hS
  refine s_putFR 9 2 578 70 73 hS dX10_init_28 fX10_16 rfl rfl rfl rfl rfl rfl (by decide +kernel) ?_
  intro w hS
  change Sh g w vM6 at hS
  refine g_aload_n dX10_init_31 rfl ?_
  refine g_sipushV (v := 160) dX10_init_32 (by decide) ?_
  refine s_newI 160 74 hS dX10_init_35 (by decide) (by decide) (by decide +kernel) ?_
  intro w hS
  change Sh g w vM7 at hS
  refine s_putFR 9 3 579 70 74 hS dX10_init_37 fX10_19 rfl rfl rfl rfl rfl rfl (by decide +kernel) ?_
  intro w hS
  change Sh g w vM8 at hS
  refine g_aload_n dX10_init_40 rfl ?_
  refine g_sipushV (v := 160) dX10_init_41 (by decide) ?_
  refine s_newI 160 75 hS dX10_init_44 (by decide) (by decide) (by decide +kernel) ?_
  intro w hS
  change Sh g w vM9 at hS
  refine s_putFR 9 4 580 70 75 hS dX10_init_46 fX10_22 rfl rfl rfl rfl rfl rfl (by decide +kernel) ?_
  intro w hS
  change Sh g w vM10 at hS
  refine g_aload_n dX10_init_49 rfl ?_
  refine g_sipushV (v := 160) dX10_init_50 (by decide) ?_
  refine s_newI 160 76 hS dX10_init_53 (by decide) (by decide) (by decide +kernel) ?_
  intro w hS
  change Sh g w vM11 at hS
  refine s_putFR 9 5 581 70 76 hS dX10_init_55 fX10_25 rfl rfl rfl rfl rfl rfl (by decide +kernel) ?_
  intro w hS
  change Sh g w vM12 at hS
  refine g_aload_n dX10_init_58 rfl ?_
  refine g_iconstV (v := 4) dX10_init_59 (by decide) ?_
  refine s_newI 4 77 hS dX10_init_60 (by decide) (by decide) (by decide +kernel) ?_
  intro w hS
  change Sh g w vM13 at hS
  refine s_putFR 9 6 582 70 77 hS dX10_init_62 fX10_28 rfl rfl rfl rfl rfl rfl (by decide +kernel) ?_
  intro w hS
  change Sh g w vM14 at hS
  refine g_aload_n dX10_init_65 rfl ?_
  refine g_iconstV (v := 4) dX10_init_66 (by decide) ?_
  refine s_newI 4 78 hS dX10_init_67 (by decide) (by decide) (by decide +kernel) ?_
  intro w hS
  change Sh g w vM15 at hS
  refine s_putFR 9 7 583 70 78 hS dX10_init_69 fX10_31 rfl rfl rfl rfl rfl rfl (by decide +kernel) ?_
  intro w hS
  change Sh g w vM16 at hS
  refine g_aload_n dX10_init_72 rfl ?_
  refine g_bipushV (v := 24) dX10_init_73 (by decide) ?_
  refine s_newI 24 79 hS dX10_init_75 (by decide) (by decide) (by decide +kernel) ?_
  intro w hS
  change Sh g w vM17 at hS
  refine s_putFR 9 8 584 70 79 hS dX10_init_77 fX10_34 rfl rfl rfl rfl rfl rfl (by decide +kernel) ?_
  intro w hS
  change Sh g w vM18 at hS
  refine g_aload_n dX10_init_80 rfl ?_
  refine g_bipushV (v := 24) dX10_init_81 (by decide) ?_
  refine s_newI 24 80 hS dX10_init_83 (by decide) (by decide) (by decide +kernel) ?_
  intro w hS
  change Sh g w vM19 at hS
  refine s_putFR 9 9 585 70 80 hS dX10_init_85 fX10_37 rfl rfl rfl rfl rfl rfl (by decide +kernel) ?_
  intro w hS
  change Sh g w vM20 at hS
  refine g_aload_n dX10_init_88 rfl ?_
  refine g_bipushV (v := 24) dX10_init_89 (by decide) ?_
  refine s_newI 24 81 hS dX10_init_91 (by decide) (by decide) (by decide +kernel) ?_
  intro w hS
  change Sh g w vM21 at hS
  refine s_putFR 9 10 586 70 81 hS dX10_init_93 fX10_40 rfl rfl rfl rfl rfl rfl (by decide +kernel) ?_
  intro w hS
  change Sh g w vM22 at hS
  refine g_aload_n dX10_init_96 rfl ?_
  refine g_bipushV (v := 8) dX10_init_97 (by decide) ?_
  refine s_newD 8 82 hS dX10_init_99 (by decide) (by decide) (by decide +kernel) ?_
  intro w hS
  change Sh g w vM23 at hS
  refine s_putFR 9 12 588 70 82 hS dX10_init_101 fX10_43 rfl rfl rfl rfl rfl rfl (by decide +kernel) ?_
  intro w hS
  change Sh g w vM24 at hS
  refine g_aload_n dX10_init_104 rfl ?_
  refine g_bipushV (v := 18) dX10_init_105 (by decide) ?_
  refine s_newZ 18 83 hS dX10_init_107 (by decide) (by decide) (by decide +kernel) ?_
  intro w hS
  change Sh g w vM25 at hS
  refine s_putFR 9 13 589 70 83 hS dX10_init_109 fX10_47 rfl rfl rfl rfl rfl rfl (by decide +kernel) ?_
  intro w hS
  change Sh g w vM26 at hS
  refine g_aload_n dX10_init_112 rfl ?_
  refine g_bipushV (v := 18) dX10_init_113 (by decide) ?_
  refine s_newI 18 84 hS dX10_init_115 (by decide) (by decide) (by decide +kernel) ?_
  intro w hS
  change Sh g w vM27 at hS
  refine s_putFR 9 14 590 70 84 hS dX10_init_117 fX10_51 rfl rfl rfl rfl rfl rfl (by decide +kernel) ?_
  intro w hS
  change Sh g w vM28 at hS
  refine g_aload_n dX10_init_120 rfl ?_
  refine g_sipushV (v := 288) dX10_init_121 (by decide) ?_
  refine s_newD 288 85 hS dX10_init_124 (by decide) (by decide) (by decide +kernel) ?_
  intro w hS
  change Sh g w vM29 at hS
  refine s_putFR 9 15 591 70 85 hS dX10_init_126 fX10_54 rfl rfl rfl rfl rfl rfl (by decide +kernel) ?_
  intro w hS
  change Sh g w vM30 at hS
  refine g_aload_n dX10_init_129 rfl ?_
  refine g_sipushV (v := 288) dX10_init_130 (by decide) ?_
  refine s_newZ 288 86 hS dX10_init_133 (by decide) (by decide) (by decide +kernel) ?_
  intro w hS
  change Sh g w vM31 at hS
  refine s_putFR 9 16 592 70 86 hS dX10_init_135 fX10_57 rfl rfl rfl rfl rfl rfl (by decide +kernel) ?_
  intro w hS
  change Sh g w vM32 at hS
  refine g_aload_n dX10_init_138 rfl ?_
  refine g_sipushV (v := 600) dX10_init_139 (by decide) ?_
  refine s_newI 600 87 hS dX10_init_142 (by decide) (by decide) (by decide +kernel) ?_
  intro w hS
  change Sh g w vM33 at hS
  refine s_putFR 9 17 593 70 87 hS dX10_init_144 fX10_60 rfl rfl rfl rfl rfl rfl (by decide +kernel) ?_
  intro w hS
  change Sh g w vM34 at hS
  refine g_aload_n dX10_init_147 rfl ?_
  refine g_sipushV (v := 600) dX10_init_148 (by decide) ?_
  refine s_newI 600 88 hS dX10_init_151 (by decide) (by decide) (by decide +kernel) ?_
  intro w hS
  change Sh g w vM35 at hS
  refine s_putFR 9 18 594 70 88 hS dX10_init_153 fX10_63 rfl rfl rfl rfl rfl rfl (by decide +kernel) ?_
  intro w hS
  change Sh g w vM36 at hS
  refine g_aload_n dX10_init_156 rfl ?_
  refine g_sipushV (v := 600) dX10_init_157 (by decide) ?_
  refine s_newI 600 89 hS dX10_init_160 (by decide) (by decide) (by decide +kernel) ?_
  intro w hS
  change Sh g w vM37 at hS
  refine s_putFR 9 19 595 70 89 hS dX10_init_162 fX10_66 rfl rfl rfl rfl rfl rfl (by decide +kernel) ?_
  intro w hS
  change Sh g w vM38 at hS
  refine g_aload_n dX10_init_165 rfl ?_
  refine g_sipushV (v := 600) dX10_init_166 (by decide) ?_
  refine s_newI 600 90 hS dX10_init_169 (by decide) (by decide) (by decide +kernel) ?_
  intro w hS
  change Sh g w vM39 at hS
  refine s_putFR 9 20 596 70 90 hS dX10_init_171 fX10_69 rfl rfl rfl rfl rfl rfl (by decide +kernel) ?_
  intro w hS
  change Sh g w vM40 at hS
  refine g_aload_n dX10_init_174 rfl ?_
  refine g_sipushV (v := 600) dX10_init_175 (by decide) ?_
  refine s_newI 600 91 hS dX10_init_178 (by decide) (by decide) (by decide +kernel) ?_
  intro w hS
  change Sh g w vM41 at hS
  refine s_putFR 9 21 597 70 91 hS dX10_init_180 fX10_72 rfl rfl rfl rfl rfl rfl (by decide +kernel) ?_
  intro w hS
  change Sh g w vM42 at hS
  refine g_aload_n dX10_init_183 rfl ?_
  refine g_iconstV (v := -1) dX10_init_184 (by decide) ?_
  refine s_putI 9 23 599 70 hS dX10_init_185 fX10_75 rfl rfl (by decide +kernel) ?_
  intro w hS
  change Sh g w vM43 at hS
  refine g_aload_n dX10_init_188 rfl ?_
  refine g_bipushV (v := 60) dX10_init_189 (by decide) ?_
  refine s_newI 60 92 hS dX10_init_191 (by decide) (by decide) (by decide +kernel) ?_
  intro w hS
  change Sh g w vM44 at hS
  refine s_putFR 9 24 600 70 92 hS dX10_init_193 fX10_79 rfl rfl rfl rfl rfl rfl (by decide +kernel) ?_
  intro w hS
  change Sh g w vM45 at hS
  refine g_aload_n dX10_init_196 rfl ?_
  refine g_bipushV (v := 60) dX10_init_197 (by decide) ?_
  refine s_newI 60 93 hS dX10_init_199 (by decide) (by decide) (by decide +kernel) ?_
  intro w hS
  change Sh g w vM46 at hS
  refine s_putFR 9 25 601 70 93 hS dX10_init_201 fX10_82 rfl rfl rfl rfl rfl rfl (by decide +kernel) ?_
  intro w hS
  change Sh g w vM47 at hS
  refine g_aload_n dX10_init_204 rfl ?_
  refine g_bipushV (v := 60) dX10_init_205 (by decide) ?_
  refine s_newI 60 94 hS dX10_init_207 (by decide) (by decide) (by decide +kernel) ?_
  intro w hS
  change Sh g w vM48 at hS
  refine s_putFR 9 26 602 70 94 hS dX10_init_209 fX10_85 rfl rfl rfl rfl rfl rfl (by decide +kernel) ?_
  intro w hS
  change Sh g w vM49 at hS
  refine g_aload_n dX10_init_212 rfl ?_
  refine g_bipushV (v := 60) dX10_init_213 (by decide) ?_
  refine s_newI 60 95 hS dX10_init_215 (by decide) (by decide) (by decide +kernel) ?_
  intro w hS
  change Sh g w vM50 at hS
  refine s_putFR 9 27 603 70 95 hS dX10_init_217 fX10_88 rfl rfl rfl rfl rfl rfl (by decide +kernel) ?_
  intro w hS
  change Sh g w vM51 at hS
  refine g_aload_n dX10_init_220 rfl ?_
  refine g_bipushV (v := 60) dX10_init_221 (by decide) ?_
  refine s_newI 60 96 hS dX10_init_223 (by decide) (by decide) (by decide +kernel) ?_
  intro w hS
  change Sh g w vM52 at hS
  refine s_putFR 9 28 604 70 96 hS dX10_init_225 fX10_91 rfl rfl rfl rfl rfl rfl (by decide +kernel) ?_
  intro w hS
  change Sh g w vM53 at hS
  refine g_aload_n dX10_init_228 rfl ?_
  refine g_sipushV (v := 1000) dX10_init_229 (by decide) ?_
  refine s_newD 1000 97 hS dX10_init_232 (by decide) (by decide) (by decide +kernel) ?_
  intro w hS
  change Sh g w vM54 at hS
  refine s_putFR 9 37 613 70 97 hS dX10_init_234 fX10_94 rfl rfl rfl rfl rfl rfl (by decide +kernel) ?_
  intro w hS
  change Sh g w vM55 at hS
  refine g_aload_n dX10_init_237 rfl ?_
  refine g_bipushV (v := 12) dX10_init_238 (by decide) ?_
  refine s_newI 12 98 hS dX10_init_240 (by decide) (by decide) (by decide +kernel) ?_
  intro w hS
  change Sh g w vM56 at hS
  refine g_dup dX10_init_242 rfl ?_
  refine g_iconstV (v := 0) dX10_init_243 (by decide) ?_
  refine g_iconstV (v := 0) dX10_init_244 (by decide) ?_
  refine s_iast 98 0 hS dX10_init_245 (by decide) (by decide +kernel) ?_
  intro w hS
  change Sh g w vM57 at hS
  refine g_dup dX10_init_246 rfl ?_
  refine g_iconstV (v := 1) dX10_init_247 (by decide) ?_
  refine g_iconstV (v := 0) dX10_init_248 (by decide) ?_
  refine s_iast 98 1 hS dX10_init_249 (by decide) (by decide +kernel) ?_
  intro w hS
  change Sh g w vM58 at hS
  refine g_dup dX10_init_250 rfl ?_
  refine g_iconstV (v := 2) dX10_init_251 (by decide) ?_
  refine g_iconstV (v := 1) dX10_init_252 (by decide) ?_
  refine s_iast 98 2 hS dX10_init_253 (by decide) (by decide +kernel) ?_
  intro w hS
  change Sh g w vM59 at hS
  refine g_dup dX10_init_254 rfl ?_
  refine g_iconstV (v := 3) dX10_init_255 (by decide) ?_
  refine g_iconstV (v := 2) dX10_init_256 (by decide) ?_
  refine s_iast 98 3 hS dX10_init_257 (by decide) (by decide +kernel) ?_
  intro w hS
  change Sh g w vM60 at hS
  refine g_dup dX10_init_258 rfl ?_
  refine g_iconstV (v := 4) dX10_init_259 (by decide) ?_
  refine g_iconstV (v := 2) dX10_init_260 (by decide) ?_
  refine s_iast 98 4 hS dX10_init_261 (by decide) (by decide +kernel) ?_
  intro w hS
  change Sh g w vM61 at hS
  refine g_dup dX10_init_262 rfl ?_
  refine g_iconstV (v := 5) dX10_init_263 (by decide) ?_
  refine g_iconstV (v := 2) dX10_init_264 (by decide) ?_
  refine s_iast 98 5 hS dX10_init_265 (by decide) (by decide +kernel) ?_
  intro w hS
  change Sh g w vM62 at hS
  refine g_dup dX10_init_266 rfl ?_
  refine g_bipushV (v := 6) dX10_init_267 (by decide) ?_
  refine g_iconstV (v := 1) dX10_init_269 (by decide) ?_
  refine s_iast 98 6 hS dX10_init_270 (by decide) (by decide +kernel) ?_
  intro w hS
  change Sh g w vM63 at hS
  refine g_dup dX10_init_271 rfl ?_
  refine g_bipushV (v := 7) dX10_init_272 (by decide) ?_
  refine g_bipushV (v := 6) dX10_init_274 (by decide) ?_
  refine s_iast 98 7 hS dX10_init_276 (by decide) (by decide +kernel) ?_
  intro w hS
  change Sh g w vM64 at hS
  refine g_dup dX10_init_277 rfl ?_
  refine g_bipushV (v := 8) dX10_init_278 (by decide) ?_
  refine g_bipushV (v := 6) dX10_init_280 (by decide) ?_
  refine s_iast 98 8 hS dX10_init_282 (by decide) (by decide +kernel) ?_
  intro w hS
  change Sh g w vM65 at hS
  refine g_dup dX10_init_283 rfl ?_
  refine g_bipushV (v := 9) dX10_init_284 (by decide) ?_
  refine g_iconstV (v := 1) dX10_init_286 (by decide) ?_
  refine s_iast 98 9 hS dX10_init_287 (by decide) (by decide +kernel) ?_
  intro w hS
  change Sh g w vM66 at hS
  refine g_dup dX10_init_288 rfl ?_
  refine g_bipushV (v := 10) dX10_init_289 (by decide) ?_
  refine g_iconstV (v := 1) dX10_init_291 (by decide) ?_
  refine s_iast 98 10 hS dX10_init_292 (by decide) (by decide +kernel) ?_
  intro w hS
  change Sh g w vM67 at hS
  refine g_dup dX10_init_293 rfl ?_
  refine g_bipushV (v := 11) dX10_init_294 (by decide) ?_
  refine g_bipushV (v := 9) dX10_init_296 (by decide) ?_
  refine s_iast 98 11 hS dX10_init_298 (by decide) (by decide +kernel) ?_
  intro w hS
  change Sh g w vM68 at hS
  refine s_putFR 9 39 615 70 98 hS dX10_init_299 fX10_97 rfl rfl rfl rfl rfl rfl (by decide +kernel) ?_
  intro w hS
  change Sh g w vM69 at hS
  refine g_vret dX10_init_302 rfl ?_
  exact k _ hS
abbrev vZ : GW := vM69
