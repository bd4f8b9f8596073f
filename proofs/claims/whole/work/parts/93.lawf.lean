/-! facts of the tables, as the law needs them; written by wip/gen/gen93.py -/
theorem lc_13 : lk ctab (mC 231) 13 = some (0, 11) := by decide +kernel
theorem lf_11 : callF 231 11 := by unfold callF; decide +kernel
theorem lc_17 : lk ctab (mC 231) 17 = some (0, 135) := by decide +kernel
theorem lf_135 : callF 231 135 := by unfold callF; decide +kernel
theorem lc_18 : lk ctab (mC 231) 18 = some (0, 17) := by decide +kernel
theorem lf_17 : callF 231 17 := by unfold callF; decide +kernel
theorem lc_22 : lk ctab (mC 231) 22 = some (0, 139) := by decide +kernel
theorem lf_139 : callF 231 139 := by unfold callF; decide +kernel
theorem lc_23 : lk ctab (mC 231) 23 = some (0, 20) := by decide +kernel
theorem lf_20 : callF 231 20 := by unfold callF; decide +kernel
theorem lc_27 : lk ctab (mC 231) 27 = some (0, 142) := by decide +kernel
theorem lf_142 : callF 231 142 := by unfold callF; decide +kernel
theorem lc_28 : lk ctab (mC 231) 28 = some (0, 21) := by decide +kernel
theorem lf_21 : callF 231 21 := by unfold callF; decide +kernel
theorem lc_31 : lk ctab (mC 231) 31 = some (0, 210) := by decide +kernel
theorem lf_210 : callF 231 210 := by unfold callF; decide +kernel
theorem lc_32 : lk ctab (mC 231) 32 = some (0, 24) := by decide +kernel
theorem lf_24 : callF 231 24 := by unfold callF; decide +kernel
theorem lc_36 : lk ctab (mC 231) 36 = some (0, 211) := by decide +kernel
theorem lf_211 : callF 231 211 := by unfold callF; decide +kernel
theorem lc_37 : lk ctab (mC 231) 37 = some (0, 41) := by decide +kernel
theorem lf_41 : callF 231 41 := by unfold callF; decide +kernel
theorem lc_41 : lk ctab (mC 231) 41 = some (0, 175) := by decide +kernel
theorem lf_175 : callF 231 175 := by unfold callF; decide +kernel
theorem lc_42 : lk ctab (mC 231) 42 = some (0, 49) := by decide +kernel
theorem lf_49 : callF 231 49 := by unfold callF; decide +kernel
theorem lc_45 : lk ctab (mC 231) 45 = some (0, 180) := by decide +kernel
theorem lf_180 : callF 231 180 := by unfold callF; decide +kernel
theorem lc_46 : lk ctab (mC 231) 46 = some (0, 53) := by decide +kernel
theorem lf_53 : callF 231 53 := by unfold callF; decide +kernel
theorem lc_49 : lk ctab (mC 231) 49 = some (0, 183) := by decide +kernel
theorem lf_183 : callF 231 183 := by unfold callF; decide +kernel
theorem lc_50 : lk ctab (mC 231) 50 = some (0, 54) := by decide +kernel
theorem lf_54 : callF 231 54 := by unfold callF; decide +kernel
theorem lc_53 : lk ctab (mC 231) 53 = some (0, 206) := by decide +kernel
theorem lf_206 : callF 231 206 := by unfold callF; decide +kernel
theorem lc_54 : lk ctab (mC 231) 54 = some (0, 55) := by decide +kernel
theorem lf_55 : callF 231 55 := by unfold callF; decide +kernel
theorem lc_57 : lk ctab (mC 231) 57 = some (0, 209) := by decide +kernel
theorem lf_209 : callF 231 209 := by unfold callF; decide +kernel
theorem lc_58 : lk ctab (mC 231) 58 = some (0, 57) := by decide +kernel
theorem lf_57 : callF 231 57 := by unfold callF; decide +kernel
theorem lc_61 : lk ctab (mC 231) 61 = some (0, 143) := by decide +kernel
theorem lf_143 : callF 231 143 := by unfold callF; decide +kernel
theorem lc_62 : lk ctab (mC 231) 62 = some (0, 68) := by decide +kernel
theorem lf_68 : callF 231 68 := by unfold callF; decide +kernel
theorem lc_65 : lk ctab (mC 231) 65 = some (0, 184) := by decide +kernel
theorem lf_184 : callF 231 184 := by unfold callF; decide +kernel
theorem lc_66 : lk ctab (mC 231) 66 = some (0, 90) := by decide +kernel
theorem lf_90 : callF 231 90 := by unfold callF; decide +kernel
theorem lc_69 : lk ctab (mC 231) 69 = some (0, 215) := by decide +kernel
theorem lf_215 : callF 231 215 := by unfold callF; decide +kernel
theorem lc_72 : lk ctab (mC 231) 72 = some (0, 95) := by decide +kernel
theorem lf_95 : callF 231 95 := by unfold callF; decide +kernel
theorem lc_76 : lk ctab (mC 231) 76 = some (0, 155) := by decide +kernel
theorem lf_155 : callF 231 155 := by unfold callF; decide +kernel
theorem lc_77 : lk ctab (mC 231) 77 = some (0, 97) := by decide +kernel
theorem lf_97 : callF 231 97 := by unfold callF; decide +kernel
theorem lc_80 : lk ctab (mC 231) 80 = some (0, 156) := by decide +kernel
theorem lf_156 : callF 231 156 := by unfold callF; decide +kernel
theorem lc_81 : lk ctab (mC 231) 81 = some (0, 111) := by decide +kernel
theorem lf_111 : callF 231 111 := by unfold callF; decide +kernel
theorem lc_85 : lk ctab (mC 231) 85 = some (0, 169) := by decide +kernel
theorem lf_169 : callF 231 169 := by unfold callF; decide +kernel
theorem lc_86 : lk ctab (mC 231) 86 = some (0, 112) := by decide +kernel
theorem lf_112 : callF 231 112 := by unfold callF; decide +kernel
theorem lc_89 : lk ctab (mC 231) 89 = some (0, 170) := by decide +kernel
theorem lf_170 : callF 231 170 := by unfold callF; decide +kernel
theorem lc_90 : lk ctab (mC 231) 90 = some (0, 114) := by decide +kernel
theorem lf_114 : callF 231 114 := by unfold callF; decide +kernel
theorem lc_93 : lk ctab (mC 231) 93 = some (0, 216) := by decide +kernel
theorem lf_216 : callF 231 216 := by unfold callF; decide +kernel
theorem lc_94 : lk ctab (mC 231) 94 = some (0, 118) := by decide +kernel
theorem lf_118 : callF 231 118 := by unfold callF; decide +kernel
theorem lc_97 : lk ctab (mC 231) 97 = some (0, 218) := by decide +kernel
theorem lf_218 : callF 231 218 := by unfold callF; decide +kernel
theorem lc_98 : lk ctab (mC 231) 98 = some (0, 121) := by decide +kernel
theorem lf_121 : callF 231 121 := by unfold callF; decide +kernel
theorem lc_101 : lk ctab (mC 231) 101 = some (0, 220) := by decide +kernel
theorem lf_220 : callF 231 220 := by unfold callF; decide +kernel
theorem lc_102 : lk ctab (mC 231) 102 = some (0, 122) := by decide +kernel
theorem lf_122 : callF 231 122 := by unfold callF; decide +kernel
theorem lc_105 : lk ctab (mC 231) 105 = some (0, 221) := by decide +kernel
theorem lf_221 : callF 231 221 := by unfold callF; decide +kernel
theorem lc_106 : lk ctab (mC 231) 106 = some (0, 126) := by decide +kernel
theorem lf_126 : callF 231 126 := by unfold callF; decide +kernel
theorem lc_109 : lk ctab (mC 231) 109 = some (0, 225) := by decide +kernel
theorem lf_225 : callF 231 225 := by unfold callF; decide +kernel
theorem lc_110 : lk ctab (mC 231) 110 = some (0, 130) := by decide +kernel
theorem lf_130 : callF 231 130 := by unfold callF; decide +kernel
theorem lc_113 : lk ctab (mC 231) 113 = some (0, 224) := by decide +kernel
theorem lf_224 : callF 231 224 := by unfold callF; decide +kernel
theorem lc_114 : lk ctab (mC 231) 114 = some (0, 131) := by decide +kernel
theorem lf_131 : callF 231 131 := by unfold callF; decide +kernel
theorem lc_117 : lk ctab (mC 231) 117 = some (0, 230) := by decide +kernel
theorem lf_230 : callF 231 230 := by unfold callF; decide +kernel
theorem ll_70 : lk ltab (mC 231) 70 = some (4294967295) := by decide +kernel
theorem sw_0 : swT 993 0 #[111, 154, 207, 240, 273, 296, 359, 382, 405, 438, 471, 534, 557, 580, 643, 666, 679, 712, 765, 808, 841, 864, 907, 960] 23 (Int32.ofNat 0) = some 111 := by decide +kernel
theorem sw_1 : swT 993 0 #[111, 154, 207, 240, 273, 296, 359, 382, 405, 438, 471, 534, 557, 580, 643, 666, 679, 712, 765, 808, 841, 864, 907, 960] 23 (Int32.ofNat 1) = some 154 := by decide +kernel
theorem sw_2 : swT 993 0 #[111, 154, 207, 240, 273, 296, 359, 382, 405, 438, 471, 534, 557, 580, 643, 666, 679, 712, 765, 808, 841, 864, 907, 960] 23 (Int32.ofNat 2) = some 207 := by decide +kernel
theorem sw_3 : swT 993 0 #[111, 154, 207, 240, 273, 296, 359, 382, 405, 438, 471, 534, 557, 580, 643, 666, 679, 712, 765, 808, 841, 864, 907, 960] 23 (Int32.ofNat 3) = some 240 := by decide +kernel
theorem sw_4 : swT 993 0 #[111, 154, 207, 240, 273, 296, 359, 382, 405, 438, 471, 534, 557, 580, 643, 666, 679, 712, 765, 808, 841, 864, 907, 960] 23 (Int32.ofNat 4) = some 273 := by decide +kernel
theorem sw_5 : swT 993 0 #[111, 154, 207, 240, 273, 296, 359, 382, 405, 438, 471, 534, 557, 580, 643, 666, 679, 712, 765, 808, 841, 864, 907, 960] 23 (Int32.ofNat 5) = some 296 := by decide +kernel
theorem sw_6 : swT 993 0 #[111, 154, 207, 240, 273, 296, 359, 382, 405, 438, 471, 534, 557, 580, 643, 666, 679, 712, 765, 808, 841, 864, 907, 960] 23 (Int32.ofNat 6) = some 359 := by decide +kernel
theorem sw_7 : swT 993 0 #[111, 154, 207, 240, 273, 296, 359, 382, 405, 438, 471, 534, 557, 580, 643, 666, 679, 712, 765, 808, 841, 864, 907, 960] 23 (Int32.ofNat 7) = some 382 := by decide +kernel
theorem sw_8 : swT 993 0 #[111, 154, 207, 240, 273, 296, 359, 382, 405, 438, 471, 534, 557, 580, 643, 666, 679, 712, 765, 808, 841, 864, 907, 960] 23 (Int32.ofNat 8) = some 405 := by decide +kernel
theorem sw_9 : swT 993 0 #[111, 154, 207, 240, 273, 296, 359, 382, 405, 438, 471, 534, 557, 580, 643, 666, 679, 712, 765, 808, 841, 864, 907, 960] 23 (Int32.ofNat 9) = some 438 := by decide +kernel
theorem sw_10 : swT 993 0 #[111, 154, 207, 240, 273, 296, 359, 382, 405, 438, 471, 534, 557, 580, 643, 666, 679, 712, 765, 808, 841, 864, 907, 960] 23 (Int32.ofNat 10) = some 471 := by decide +kernel
theorem sw_11 : swT 993 0 #[111, 154, 207, 240, 273, 296, 359, 382, 405, 438, 471, 534, 557, 580, 643, 666, 679, 712, 765, 808, 841, 864, 907, 960] 23 (Int32.ofNat 11) = some 534 := by decide +kernel
theorem sw_12 : swT 993 0 #[111, 154, 207, 240, 273, 296, 359, 382, 405, 438, 471, 534, 557, 580, 643, 666, 679, 712, 765, 808, 841, 864, 907, 960] 23 (Int32.ofNat 12) = some 557 := by decide +kernel
theorem sw_13 : swT 993 0 #[111, 154, 207, 240, 273, 296, 359, 382, 405, 438, 471, 534, 557, 580, 643, 666, 679, 712, 765, 808, 841, 864, 907, 960] 23 (Int32.ofNat 13) = some 580 := by decide +kernel
theorem sw_14 : swT 993 0 #[111, 154, 207, 240, 273, 296, 359, 382, 405, 438, 471, 534, 557, 580, 643, 666, 679, 712, 765, 808, 841, 864, 907, 960] 23 (Int32.ofNat 14) = some 643 := by decide +kernel
theorem sw_15 : swT 993 0 #[111, 154, 207, 240, 273, 296, 359, 382, 405, 438, 471, 534, 557, 580, 643, 666, 679, 712, 765, 808, 841, 864, 907, 960] 23 (Int32.ofNat 15) = some 666 := by decide +kernel
theorem sw_16 : swT 993 0 #[111, 154, 207, 240, 273, 296, 359, 382, 405, 438, 471, 534, 557, 580, 643, 666, 679, 712, 765, 808, 841, 864, 907, 960] 23 (Int32.ofNat 16) = some 679 := by decide +kernel
theorem sw_17 : swT 993 0 #[111, 154, 207, 240, 273, 296, 359, 382, 405, 438, 471, 534, 557, 580, 643, 666, 679, 712, 765, 808, 841, 864, 907, 960] 23 (Int32.ofNat 17) = some 712 := by decide +kernel
theorem sw_18 : swT 993 0 #[111, 154, 207, 240, 273, 296, 359, 382, 405, 438, 471, 534, 557, 580, 643, 666, 679, 712, 765, 808, 841, 864, 907, 960] 23 (Int32.ofNat 18) = some 765 := by decide +kernel
theorem sw_19 : swT 993 0 #[111, 154, 207, 240, 273, 296, 359, 382, 405, 438, 471, 534, 557, 580, 643, 666, 679, 712, 765, 808, 841, 864, 907, 960] 23 (Int32.ofNat 19) = some 808 := by decide +kernel
theorem sw_20 : swT 993 0 #[111, 154, 207, 240, 273, 296, 359, 382, 405, 438, 471, 534, 557, 580, 643, 666, 679, 712, 765, 808, 841, 864, 907, 960] 23 (Int32.ofNat 20) = some 841 := by decide +kernel
theorem sw_21 : swT 993 0 #[111, 154, 207, 240, 273, 296, 359, 382, 405, 438, 471, 534, 557, 580, 643, 666, 679, 712, 765, 808, 841, 864, 907, 960] 23 (Int32.ofNat 21) = some 864 := by decide +kernel
theorem sw_22 : swT 993 0 #[111, 154, 207, 240, 273, 296, 359, 382, 405, 438, 471, 534, 557, 580, 643, 666, 679, 712, 765, 808, 841, 864, 907, 960] 23 (Int32.ofNat 22) = some 907 := by decide +kernel
theorem sw_23 : swT 993 0 #[111, 154, 207, 240, 273, 296, 359, 382, 405, 438, 471, 534, 557, 580, 643, 666, 679, 712, 765, 808, 841, 864, 907, 960] 23 (Int32.ofNat 23) = some 960 := by decide +kernel
theorem sw_24 : swT 993 0 #[111, 154, 207, 240, 273, 296, 359, 382, 405, 438, 471, 534, 557, 580, 643, 666, 679, 712, 765, 808, 841, 864, 907, 960] 23 (Int32.ofNat 24) = some 993 := by decide +kernel
theorem sw_25 : swT 993 0 #[111, 154, 207, 240, 273, 296, 359, 382, 405, 438, 471, 534, 557, 580, 643, 666, 679, 712, 765, 808, 841, 864, 907, 960] 23 (Int32.ofNat 25) = some 993 := by decide +kernel
theorem sw_26 : swT 993 0 #[111, 154, 207, 240, 273, 296, 359, 382, 405, 438, 471, 534, 557, 580, 643, 666, 679, 712, 765, 808, 841, 864, 907, 960] 23 (Int32.ofNat 26) = some 993 := by decide +kernel
theorem sw_27 : swT 993 0 #[111, 154, 207, 240, 273, 296, 359, 382, 405, 438, 471, 534, 557, 580, 643, 666, 679, 712, 765, 808, 841, 864, 907, 960] 23 (Int32.ofNat 27) = some 993 := by decide +kernel
theorem sw_28 : swT 993 0 #[111, 154, 207, 240, 273, 296, 359, 382, 405, 438, 471, 534, 557, 580, 643, 666, 679, 712, 765, 808, 841, 864, 907, 960] 23 (Int32.ofNat 28) = some 993 := by decide +kernel
theorem sw_29 : swT 993 0 #[111, 154, 207, 240, 273, 296, 359, 382, 405, 438, 471, 534, 557, 580, 643, 666, 679, 712, 765, 808, 841, 864, 907, 960] 23 (Int32.ofNat 29) = some 993 := by decide +kernel
theorem sw_30 : swT 993 0 #[111, 154, 207, 240, 273, 296, 359, 382, 405, 438, 471, 534, 557, 580, 643, 666, 679, 712, 765, 808, 841, 864, 907, 960] 23 (Int32.ofNat 30) = some 993 := by decide +kernel
theorem sw_31 : swT 993 0 #[111, 154, 207, 240, 273, 296, 359, 382, 405, 438, 471, 534, 557, 580, 643, 666, 679, 712, 765, 808, 841, 864, 907, 960] 23 (Int32.ofNat 31) = some 993 := by decide +kernel
