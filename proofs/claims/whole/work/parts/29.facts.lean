/-! facts of the tables, as the methods need them; written by wip/gen/gen28.py -/
theorem fl_2_37 : lk ftab (mC 2) 37 = some (4, 8) := by decide +kernel
theorem fl_2_43 : lk ftab (mC 2) 43 = some (4, 10) := by decide +kernel
theorem fl_11_12 : lk ftab (mC 11) 12 = some (9, 0) := by decide +kernel
theorem fl_11_55 : lk ftab (mC 11) 55 = some (9, 6) := by decide +kernel
theorem fl_11_93 : lk ftab (mC 11) 93 = some (4, 4) := by decide +kernel
theorem fl_11_108 : lk ftab (mC 11) 108 = some (2, 10) := by decide +kernel
theorem fl_14_73 : lk ftab (mC 14) 73 = some (9, 9) := by decide +kernel
theorem fl_14_79 : lk ftab (mC 14) 79 = some (9, 11) := by decide +kernel
theorem fl_14_356 : lk ftab (mC 14) 356 = some (2, 14) := by decide +kernel
theorem fl_15_9 : lk ftab (mC 15) 9 = some (4, 0) := by decide +kernel
theorem fl_15_15 : lk ftab (mC 15) 15 = some (4, 1) := by decide +kernel
theorem fl_15_18 : lk ftab (mC 15) 18 = some (4, 2) := by decide +kernel
theorem fl_16_24 : lk ftab (mC 16) 24 = some (4, 4) := by decide +kernel
theorem fl_17_19 : lk ftab (mC 17) 19 = some (9, 1) := by decide +kernel
theorem fl_17_114 : lk ftab (mC 17) 114 = some (8, 4) := by decide +kernel
theorem fl_18_12 : lk ftab (mC 18) 12 = some (9, 0) := by decide +kernel
theorem fl_18_93 : lk ftab (mC 18) 93 = some (4, 4) := by decide +kernel
theorem fl_19_9 : lk ftab (mC 19) 9 = some (8, 0) := by decide +kernel
theorem fl_19_15 : lk ftab (mC 19) 15 = some (8, 1) := by decide +kernel
theorem fl_19_18 : lk ftab (mC 19) 18 = some (8, 2) := by decide +kernel
theorem fl_19_21 : lk ftab (mC 19) 21 = some (8, 3) := by decide +kernel
theorem fl_19_24 : lk ftab (mC 19) 24 = some (8, 4) := by decide +kernel
theorem fl_20_23 : lk ftab (mC 20) 23 = some (9, 2) := by decide +kernel
theorem fl_21_12 : lk ftab (mC 21) 12 = some (9, 0) := by decide +kernel
theorem fl_21_19 : lk ftab (mC 21) 19 = some (9, 1) := by decide +kernel
theorem fl_21_55 : lk ftab (mC 21) 55 = some (9, 6) := by decide +kernel
theorem fl_21_120 : lk ftab (mC 21) 120 = some (4, 0) := by decide +kernel
theorem fl_21_123 : lk ftab (mC 21) 123 = some (4, 1) := by decide +kernel
theorem fl_21_126 : lk ftab (mC 21) 126 = some (4, 2) := by decide +kernel
theorem fl_21_129 : lk ftab (mC 21) 129 = some (2, 6) := by decide +kernel
theorem fl_21_140 : lk ftab (mC 21) 140 = some (2, 8) := by decide +kernel
theorem fl_21_143 : lk ftab (mC 21) 143 = some (2, 9) := by decide +kernel
theorem fl_22_9 : lk ftab (mC 22) 9 = some (8, 0) := by decide +kernel
theorem fl_22_15 : lk ftab (mC 22) 15 = some (8, 1) := by decide +kernel
theorem fl_22_18 : lk ftab (mC 22) 18 = some (8, 2) := by decide +kernel
theorem fl_22_21 : lk ftab (mC 22) 21 = some (8, 3) := by decide +kernel
theorem fl_22_24 : lk ftab (mC 22) 24 = some (8, 4) := by decide +kernel
theorem fl_23_11 : lk ftab (mC 23) 11 = some (2, 4) := by decide +kernel
theorem fl_23_17 : lk ftab (mC 23) 17 = some (2, 5) := by decide +kernel
theorem fl_23_144 : lk ftab (mC 23) 144 = some (0, 15) := by decide +kernel
theorem fl_24_12 : lk ftab (mC 24) 12 = some (9, 0) := by decide +kernel
theorem fl_24_30 : lk ftab (mC 24) 30 = some (9, 3) := by decide +kernel
theorem fl_24_46 : lk ftab (mC 24) 46 = some (9, 5) := by decide +kernel
theorem fl_24_55 : lk ftab (mC 24) 55 = some (9, 6) := by decide +kernel
theorem fl_24_62 : lk ftab (mC 24) 62 = some (9, 7) := by decide +kernel
theorem fl_24_93 : lk ftab (mC 24) 93 = some (4, 4) := by decide +kernel
theorem fl_24_129 : lk ftab (mC 24) 129 = some (2, 6) := by decide +kernel
theorem fl_24_146 : lk ftab (mC 24) 146 = some (2, 5) := by decide +kernel
theorem fl_24_147 : lk ftab (mC 24) 147 = some (2, 7) := by decide +kernel
theorem fl_24_150 : lk ftab (mC 24) 150 = some (5, 6) := by decide +kernel
theorem fl_24_151 : lk ftab (mC 24) 151 = some (1, 0) := by decide +kernel
theorem fl_24_154 : lk ftab (mC 24) 154 = some (4, 5) := by decide +kernel
theorem fl_24_157 : lk ftab (mC 24) 157 = some (6, 1) := by decide +kernel
theorem fl_25_11 : lk ftab (mC 25) 11 = some (2, 4) := by decide +kernel
theorem fl_25_17 : lk ftab (mC 25) 17 = some (2, 5) := by decide +kernel
theorem fl_25_78 : lk ftab (mC 25) 78 = some (0, 12) := by decide +kernel
theorem fl_26_11 : lk ftab (mC 26) 11 = some (2, 4) := by decide +kernel
theorem fl_26_17 : lk ftab (mC 26) 17 = some (2, 5) := by decide +kernel
theorem fl_27_43 : lk ftab (mC 27) 43 = some (2, 13) := by decide +kernel
theorem fl_27_67 : lk ftab (mC 27) 67 = some (2, 2) := by decide +kernel
theorem fl_27_75 : lk ftab (mC 27) 75 = some (0, 9) := by decide +kernel
theorem fl_27_85 : lk ftab (mC 27) 85 = some (0, 10) := by decide +kernel
theorem fl_27_98 : lk ftab (mC 27) 98 = some (0, 13) := by decide +kernel
theorem fl_27_113 : lk ftab (mC 27) 113 = some (0, 3) := by decide +kernel
theorem fl_27_116 : lk ftab (mC 27) 116 = some (0, 4) := by decide +kernel
theorem fl_27_119 : lk ftab (mC 27) 119 = some (7, 6) := by decide +kernel
theorem fl_27_122 : lk ftab (mC 27) 122 = some (7, 8) := by decide +kernel
theorem fl_28_9 : lk ftab (mC 28) 9 = some (7, 1) := by decide +kernel
theorem fl_28_15 : lk ftab (mC 28) 15 = some (7, 2) := by decide +kernel
theorem fl_28_19 : lk ftab (mC 28) 19 = some (7, 3) := by decide +kernel
theorem fl_28_43 : lk ftab (mC 28) 43 = some (7, 0) := by decide +kernel
theorem fl_28_63 : lk ftab (mC 28) 63 = some (5, 1) := by decide +kernel
theorem fl_29_9 : lk ftab (mC 29) 9 = some (5, 0) := by decide +kernel
theorem fl_29_30 : lk ftab (mC 29) 30 = some (5, 6) := by decide +kernel
theorem fl_30_43 : lk ftab (mC 30) 43 = some (7, 0) := by decide +kernel
theorem fl_30_69 : lk ftab (mC 30) 69 = some (5, 6) := by decide +kernel
theorem fl_31_15 : lk ftab (mC 31) 15 = some (5, 1) := by decide +kernel
theorem fl_31_18 : lk ftab (mC 31) 18 = some (5, 2) := by decide +kernel
theorem fl_31_21 : lk ftab (mC 31) 21 = some (5, 3) := by decide +kernel
theorem fl_31_30 : lk ftab (mC 31) 30 = some (5, 6) := by decide +kernel
theorem fl_32_15 : lk ftab (mC 32) 15 = some (7, 2) := by decide +kernel
theorem fl_32_19 : lk ftab (mC 32) 19 = some (7, 3) := by decide +kernel
theorem fl_32_43 : lk ftab (mC 32) 43 = some (7, 0) := by decide +kernel
theorem fl_32_69 : lk ftab (mC 32) 69 = some (5, 6) := by decide +kernel
theorem fl_32_75 : lk ftab (mC 32) 75 = some (5, 0) := by decide +kernel
theorem fl_33_22 : lk ftab (mC 33) 22 = some (7, 4) := by decide +kernel
theorem fl_33_25 : lk ftab (mC 33) 25 = some (7, 5) := by decide +kernel
theorem fl_33_28 : lk ftab (mC 33) 28 = some (7, 6) := by decide +kernel
theorem fl_33_31 : lk ftab (mC 33) 31 = some (7, 7) := by decide +kernel
theorem fl_33_34 : lk ftab (mC 33) 34 = some (7, 8) := by decide +kernel
theorem fl_33_37 : lk ftab (mC 33) 37 = some (7, 9) := by decide +kernel
theorem fl_33_40 : lk ftab (mC 33) 40 = some (7, 10) := by decide +kernel
theorem fl_34_22 : lk ftab (mC 34) 22 = some (7, 4) := by decide +kernel
theorem fl_34_25 : lk ftab (mC 34) 25 = some (7, 5) := by decide +kernel
theorem fl_34_28 : lk ftab (mC 34) 28 = some (7, 6) := by decide +kernel
theorem fl_34_31 : lk ftab (mC 34) 31 = some (7, 7) := by decide +kernel
theorem fl_34_34 : lk ftab (mC 34) 34 = some (7, 8) := by decide +kernel
theorem fl_34_43 : lk ftab (mC 34) 43 = some (7, 0) := by decide +kernel
theorem fl_34_78 : lk ftab (mC 34) 78 = some (5, 3) := by decide +kernel
theorem fl_34_81 : lk ftab (mC 34) 81 = some (5, 2) := by decide +kernel
theorem fl_34_84 : lk ftab (mC 34) 84 = some (5, 4) := by decide +kernel
theorem fl_35_37 : lk ftab (mC 35) 37 = some (7, 9) := by decide +kernel
theorem fl_35_40 : lk ftab (mC 35) 40 = some (7, 10) := by decide +kernel
theorem fl_36_18 : lk ftab (mC 36) 18 = some (0, 2) := by decide +kernel
theorem fl_36_40 : lk ftab (mC 36) 40 = some (0, 9) := by decide +kernel
theorem fl_36_43 : lk ftab (mC 36) 43 = some (0, 10) := by decide +kernel
theorem fl_36_46 : lk ftab (mC 36) 46 = some (0, 11) := by decide +kernel
theorem fl_38_15 : lk ftab (mC 38) 15 = some (7, 2) := by decide +kernel
theorem fl_38_19 : lk ftab (mC 38) 19 = some (7, 3) := by decide +kernel
theorem fl_38_43 : lk ftab (mC 38) 43 = some (7, 0) := by decide +kernel
theorem fl_38_63 : lk ftab (mC 38) 63 = some (5, 1) := by decide +kernel
theorem fl_38_78 : lk ftab (mC 38) 78 = some (5, 3) := by decide +kernel
theorem fl_38_81 : lk ftab (mC 38) 81 = some (5, 2) := by decide +kernel
theorem fl_38_84 : lk ftab (mC 38) 84 = some (5, 4) := by decide +kernel
theorem fl_39_15 : lk ftab (mC 39) 15 = some (7, 2) := by decide +kernel
theorem fl_39_19 : lk ftab (mC 39) 19 = some (7, 3) := by decide +kernel
theorem fl_39_43 : lk ftab (mC 39) 43 = some (7, 0) := by decide +kernel
theorem fl_39_63 : lk ftab (mC 39) 63 = some (5, 1) := by decide +kernel
theorem fl_39_78 : lk ftab (mC 39) 78 = some (5, 3) := by decide +kernel
theorem fl_39_81 : lk ftab (mC 39) 81 = some (5, 2) := by decide +kernel
theorem fl_39_84 : lk ftab (mC 39) 84 = some (5, 4) := by decide +kernel
theorem fl_39_101 : lk ftab (mC 39) 101 = some (5, 5) := by decide +kernel
theorem fl_40_11 : lk ftab (mC 40) 11 = some (2, 4) := by decide +kernel
theorem fl_40_17 : lk ftab (mC 40) 17 = some (2, 5) := by decide +kernel
theorem fl_40_75 : lk ftab (mC 40) 75 = some (0, 9) := by decide +kernel
theorem fl_41_55 : lk ftab (mC 41) 55 = some (9, 6) := by decide +kernel
theorem fl_41_129 : lk ftab (mC 41) 129 = some (2, 6) := by decide +kernel
theorem fl_41_146 : lk ftab (mC 41) 146 = some (2, 5) := by decide +kernel
theorem fl_42_12 : lk ftab (mC 42) 12 = some (9, 0) := by decide +kernel
theorem fl_42_39 : lk ftab (mC 42) 39 = some (9, 4) := by decide +kernel
theorem fl_42_55 : lk ftab (mC 42) 55 = some (9, 6) := by decide +kernel
theorem fl_42_129 : lk ftab (mC 42) 129 = some (2, 6) := by decide +kernel
theorem fl_42_178 : lk ftab (mC 42) 178 = some (7, 7) := by decide +kernel
theorem fl_43_11 : lk ftab (mC 43) 11 = some (2, 4) := by decide +kernel
theorem fl_43_17 : lk ftab (mC 43) 17 = some (2, 5) := by decide +kernel
theorem fl_43_134 : lk ftab (mC 43) 134 = some (0, 0) := by decide +kernel
theorem fl_43_137 : lk ftab (mC 43) 137 = some (0, 1) := by decide +kernel
theorem fl_44_40 : lk ftab (mC 44) 40 = some (0, 9) := by decide +kernel
theorem fl_45_24 : lk ftab (mC 45) 24 = some (4, 4) := by decide +kernel
theorem fl_46_9 : lk ftab (mC 46) 9 = some (4, 0) := by decide +kernel
theorem fl_46_15 : lk ftab (mC 46) 15 = some (4, 1) := by decide +kernel
theorem fl_47_11 : lk ftab (mC 47) 11 = some (2, 4) := by decide +kernel
theorem fl_47_17 : lk ftab (mC 47) 17 = some (2, 5) := by decide +kernel
theorem fl_47_21 : lk ftab (mC 47) 21 = some (2, 6) := by decide +kernel
theorem fl_47_151 : lk ftab (mC 47) 151 = some (0, 5) := by decide +kernel
theorem fl_47_154 : lk ftab (mC 47) 154 = some (0, 6) := by decide +kernel
theorem fl_48_9 : lk ftab (mC 48) 9 = some (0, 0) := by decide +kernel
theorem fl_48_15 : lk ftab (mC 48) 15 = some (0, 1) := by decide +kernel
theorem fl_48_18 : lk ftab (mC 48) 18 = some (0, 2) := by decide +kernel
theorem fl_48_21 : lk ftab (mC 48) 21 = some (0, 3) := by decide +kernel
theorem fl_48_24 : lk ftab (mC 48) 24 = some (0, 4) := by decide +kernel
theorem fl_49_55 : lk ftab (mC 49) 55 = some (9, 6) := by decide +kernel
theorem fl_50_55 : lk ftab (mC 50) 55 = some (9, 6) := by decide +kernel
theorem fl_50_146 : lk ftab (mC 50) 146 = some (2, 5) := by decide +kernel
theorem fl_51_11 : lk ftab (mC 51) 11 = some (2, 4) := by decide +kernel
theorem fl_51_17 : lk ftab (mC 51) 17 = some (2, 5) := by decide +kernel
theorem fl_51_21 : lk ftab (mC 51) 21 = some (2, 6) := by decide +kernel
theorem fl_51_75 : lk ftab (mC 51) 75 = some (0, 9) := by decide +kernel
theorem fl_51_161 : lk ftab (mC 51) 161 = some (0, 11) := by decide +kernel
theorem fl_51_164 : lk ftab (mC 51) 164 = some (0, 7) := by decide +kernel
theorem fl_52_40 : lk ftab (mC 52) 40 = some (2, 12) := by decide +kernel
theorem fl_52_75 : lk ftab (mC 52) 75 = some (0, 9) := by decide +kernel
theorem fl_52_98 : lk ftab (mC 52) 98 = some (0, 13) := by decide +kernel
theorem fl_52_144 : lk ftab (mC 52) 144 = some (0, 15) := by decide +kernel
theorem fl_52_213 : lk ftab (mC 52) 213 = some (0, 14) := by decide +kernel
theorem fl_53_55 : lk ftab (mC 53) 55 = some (9, 6) := by decide +kernel
theorem fl_53_129 : lk ftab (mC 53) 129 = some (2, 6) := by decide +kernel
theorem fl_53_146 : lk ftab (mC 53) 146 = some (2, 5) := by decide +kernel
theorem fl_53_196 : lk ftab (mC 53) 196 = some (2, 4) := by decide +kernel
theorem fl_53_200 : lk ftab (mC 53) 200 = some (0, 9) := by decide +kernel
theorem fl_53_205 : lk ftab (mC 53) 205 = some (0, 8) := by decide +kernel
theorem fl_53_209 : lk ftab (mC 53) 209 = some (0, 0) := by decide +kernel
theorem fl_53_212 : lk ftab (mC 53) 212 = some (0, 1) := by decide +kernel
theorem fl_53_215 : lk ftab (mC 53) 215 = some (0, 2) := by decide +kernel
theorem fl_54_55 : lk ftab (mC 54) 55 = some (9, 6) := by decide +kernel
theorem fl_54_196 : lk ftab (mC 54) 196 = some (2, 4) := by decide +kernel
theorem fl_54_200 : lk ftab (mC 54) 200 = some (0, 9) := by decide +kernel
theorem fl_54_209 : lk ftab (mC 54) 209 = some (0, 0) := by decide +kernel
theorem fl_54_212 : lk ftab (mC 54) 212 = some (0, 1) := by decide +kernel
theorem fl_54_215 : lk ftab (mC 54) 215 = some (0, 2) := by decide +kernel
theorem fl_54_219 : lk ftab (mC 54) 219 = some (0, 3) := by decide +kernel
theorem fl_54_222 : lk ftab (mC 54) 222 = some (0, 4) := by decide +kernel
theorem fl_54_225 : lk ftab (mC 54) 225 = some (0, 5) := by decide +kernel
theorem fl_54_228 : lk ftab (mC 54) 228 = some (0, 10) := by decide +kernel
theorem fl_54_231 : lk ftab (mC 54) 231 = some (0, 11) := by decide +kernel
theorem fl_54_234 : lk ftab (mC 54) 234 = some (0, 12) := by decide +kernel
theorem fl_54_237 : lk ftab (mC 54) 237 = some (0, 6) := by decide +kernel
theorem fl_54_240 : lk ftab (mC 54) 240 = some (0, 14) := by decide +kernel
theorem fl_54_247 : lk ftab (mC 54) 247 = some (0, 13) := by decide +kernel
theorem fl_55_55 : lk ftab (mC 55) 55 = some (9, 6) := by decide +kernel
theorem fl_55_196 : lk ftab (mC 55) 196 = some (2, 4) := by decide +kernel
theorem fl_55_247 : lk ftab (mC 55) 247 = some (0, 13) := by decide +kernel
theorem fl_57_12 : lk ftab (mC 57) 12 = some (9, 0) := by decide +kernel
theorem fl_57_55 : lk ftab (mC 57) 55 = some (9, 6) := by decide +kernel
theorem fl_57_108 : lk ftab (mC 57) 108 = some (2, 10) := by decide +kernel
theorem fl_58_18 : lk ftab (mC 58) 18 = some (4, 2) := by decide +kernel
theorem fl_58_37 : lk ftab (mC 58) 37 = some (4, 8) := by decide +kernel
theorem fl_58_40 : lk ftab (mC 58) 40 = some (4, 9) := by decide +kernel
theorem fl_58_43 : lk ftab (mC 58) 43 = some (4, 10) := by decide +kernel
theorem fl_61_31 : lk ftab (mC 61) 31 = some (4, 6) := by decide +kernel
theorem fl_61_37 : lk ftab (mC 61) 37 = some (4, 8) := by decide +kernel
theorem fl_62_18 : lk ftab (mC 62) 18 = some (4, 2) := by decide +kernel
theorem fl_63_18 : lk ftab (mC 63) 18 = some (4, 2) := by decide +kernel
theorem fl_64_31 : lk ftab (mC 64) 31 = some (4, 6) := by decide +kernel
theorem fl_64_34 : lk ftab (mC 64) 34 = some (4, 7) := by decide +kernel
theorem fl_64_37 : lk ftab (mC 64) 37 = some (4, 8) := by decide +kernel
theorem fl_66_31 : lk ftab (mC 66) 31 = some (4, 6) := by decide +kernel
theorem fl_66_34 : lk ftab (mC 66) 34 = some (4, 7) := by decide +kernel
theorem fl_66_40 : lk ftab (mC 66) 40 = some (4, 9) := by decide +kernel
theorem fl_66_43 : lk ftab (mC 66) 43 = some (4, 10) := by decide +kernel
theorem fl_68_55 : lk ftab (mC 68) 55 = some (9, 6) := by decide +kernel
theorem fl_68_129 : lk ftab (mC 68) 129 = some (2, 6) := by decide +kernel
theorem fl_69_11 : lk ftab (mC 69) 11 = some (2, 4) := by decide +kernel
theorem fl_69_17 : lk ftab (mC 69) 17 = some (2, 5) := by decide +kernel
theorem fl_69_59 : lk ftab (mC 69) 59 = some (2, 0) := by decide +kernel
theorem fl_69_134 : lk ftab (mC 69) 134 = some (0, 0) := by decide +kernel
theorem fl_69_137 : lk ftab (mC 69) 137 = some (0, 1) := by decide +kernel
theorem fl_70_21 : lk ftab (mC 70) 21 = some (2, 6) := by decide +kernel
theorem fl_70_34 : lk ftab (mC 70) 34 = some (2, 10) := by decide +kernel
theorem fl_70_37 : lk ftab (mC 70) 37 = some (2, 11) := by decide +kernel
theorem fl_70_43 : lk ftab (mC 70) 43 = some (2, 13) := by decide +kernel
theorem fl_70_63 : lk ftab (mC 70) 63 = some (2, 1) := by decide +kernel
theorem fl_70_67 : lk ftab (mC 70) 67 = some (2, 2) := by decide +kernel
theorem fl_71_9 : lk ftab (mC 71) 9 = some (8, 0) := by decide +kernel
theorem fl_71_18 : lk ftab (mC 71) 18 = some (8, 2) := by decide +kernel
theorem fl_71_21 : lk ftab (mC 71) 21 = some (8, 3) := by decide +kernel
theorem fl_71_24 : lk ftab (mC 71) 24 = some (8, 4) := by decide +kernel
theorem fl_72_11 : lk ftab (mC 72) 11 = some (2, 4) := by decide +kernel
theorem fl_72_17 : lk ftab (mC 72) 17 = some (2, 5) := by decide +kernel
theorem fl_72_21 : lk ftab (mC 72) 21 = some (2, 6) := by decide +kernel
theorem fl_72_37 : lk ftab (mC 72) 37 = some (2, 11) := by decide +kernel
theorem fl_72_75 : lk ftab (mC 72) 75 = some (0, 9) := by decide +kernel
theorem fl_72_85 : lk ftab (mC 72) 85 = some (0, 10) := by decide +kernel
theorem fl_72_144 : lk ftab (mC 72) 144 = some (0, 15) := by decide +kernel
theorem fl_72_179 : lk ftab (mC 72) 179 = some (0, 2) := by decide +kernel
theorem fl_73_21 : lk ftab (mC 73) 21 = some (2, 6) := by decide +kernel
theorem fl_73_40 : lk ftab (mC 73) 40 = some (2, 12) := by decide +kernel
theorem fl_73_75 : lk ftab (mC 73) 75 = some (0, 9) := by decide +kernel
theorem fl_73_144 : lk ftab (mC 73) 144 = some (0, 15) := by decide +kernel
theorem fl_73_161 : lk ftab (mC 73) 161 = some (0, 11) := by decide +kernel
theorem fl_74_11 : lk ftab (mC 74) 11 = some (2, 4) := by decide +kernel
theorem fl_74_17 : lk ftab (mC 74) 17 = some (2, 5) := by decide +kernel
theorem fl_74_21 : lk ftab (mC 74) 21 = some (2, 6) := by decide +kernel
theorem fl_74_34 : lk ftab (mC 74) 34 = some (2, 10) := by decide +kernel
theorem fl_74_53 : lk ftab (mC 74) 53 = some (2, 16) := by decide +kernel
theorem fl_74_56 : lk ftab (mC 74) 56 = some (2, 17) := by decide +kernel
theorem fl_74_59 : lk ftab (mC 74) 59 = some (2, 0) := by decide +kernel
theorem fl_74_67 : lk ftab (mC 74) 67 = some (2, 2) := by decide +kernel
theorem fl_74_116 : lk ftab (mC 74) 116 = some (0, 4) := by decide +kernel
theorem fl_74_134 : lk ftab (mC 74) 134 = some (0, 0) := by decide +kernel
theorem fl_74_137 : lk ftab (mC 74) 137 = some (0, 1) := by decide +kernel
theorem fl_74_216 : lk ftab (mC 74) 216 = some (7, 4) := by decide +kernel
theorem fl_74_223 : lk ftab (mC 74) 223 = some (0, 18) := by decide +kernel
theorem fl_74_232 : lk ftab (mC 74) 232 = some (0, 17) := by decide +kernel
theorem fl_75_31 : lk ftab (mC 75) 31 = some (4, 6) := by decide +kernel
theorem fl_75_34 : lk ftab (mC 75) 34 = some (4, 7) := by decide +kernel
theorem fl_75_40 : lk ftab (mC 75) 40 = some (4, 9) := by decide +kernel
theorem fl_75_43 : lk ftab (mC 75) 43 = some (4, 10) := by decide +kernel
theorem fl_76_37 : lk ftab (mC 76) 37 = some (7, 9) := by decide +kernel
theorem fl_76_40 : lk ftab (mC 76) 40 = some (7, 10) := by decide +kernel
theorem fl_77_110 : lk ftab (mC 77) 110 = some (0, 3) := by decide +kernel
theorem fl_77_114 : lk ftab (mC 77) 114 = some (0, 5) := by decide +kernel
theorem fl_77_117 : lk ftab (mC 77) 117 = some (0, 2) := by decide +kernel
theorem fl_77_120 : lk ftab (mC 77) 120 = some (0, 18) := by decide +kernel
theorem fl_78_24 : lk ftab (mC 78) 24 = some (2, 7) := by decide +kernel
theorem fl_79_53 : lk ftab (mC 79) 53 = some (2, 16) := by decide +kernel
theorem fl_79_56 : lk ftab (mC 79) 56 = some (2, 17) := by decide +kernel
theorem fl_79_75 : lk ftab (mC 79) 75 = some (0, 9) := by decide +kernel
theorem fl_79_250 : lk ftab (mC 79) 250 = some (0, 19) := by decide +kernel
theorem fl_80_54 : lk ftab (mC 80) 54 = some (0, 13) := by decide +kernel
theorem fl_80_57 : lk ftab (mC 80) 57 = some (0, 14) := by decide +kernel
theorem fl_81_40 : lk ftab (mC 81) 40 = some (2, 12) := by decide +kernel
theorem fl_81_53 : lk ftab (mC 81) 53 = some (2, 16) := by decide +kernel
theorem fl_81_56 : lk ftab (mC 81) 56 = some (2, 17) := by decide +kernel
theorem fl_81_144 : lk ftab (mC 81) 144 = some (0, 15) := by decide +kernel
theorem fl_82_53 : lk ftab (mC 82) 53 = some (2, 16) := by decide +kernel
theorem fl_82_56 : lk ftab (mC 82) 56 = some (2, 17) := by decide +kernel
theorem fl_83_250 : lk ftab (mC 83) 250 = some (0, 19) := by decide +kernel
theorem fl_84_50 : lk ftab (mC 84) 50 = some (2, 15) := by decide +kernel
theorem fl_84_53 : lk ftab (mC 84) 53 = some (2, 16) := by decide +kernel
theorem fl_84_56 : lk ftab (mC 84) 56 = some (2, 17) := by decide +kernel
theorem fl_84_71 : lk ftab (mC 84) 71 = some (2, 3) := by decide +kernel
theorem fl_84_75 : lk ftab (mC 84) 75 = some (0, 9) := by decide +kernel
theorem fl_84_134 : lk ftab (mC 84) 134 = some (0, 0) := by decide +kernel
theorem fl_85_21 : lk ftab (mC 85) 21 = some (2, 6) := by decide +kernel
theorem fl_85_37 : lk ftab (mC 85) 37 = some (2, 11) := by decide +kernel
theorem fl_85_40 : lk ftab (mC 85) 40 = some (2, 12) := by decide +kernel
theorem fl_85_67 : lk ftab (mC 85) 67 = some (2, 2) := by decide +kernel
theorem fl_85_270 : lk ftab (mC 85) 270 = some (7, 5) := by decide +kernel
theorem fl_85_276 : lk ftab (mC 85) 276 = some (0, 16) := by decide +kernel
theorem fl_86_21 : lk ftab (mC 86) 21 = some (2, 6) := by decide +kernel
theorem fl_86_37 : lk ftab (mC 86) 37 = some (2, 11) := by decide +kernel
theorem fl_86_40 : lk ftab (mC 86) 40 = some (2, 12) := by decide +kernel
theorem fl_86_75 : lk ftab (mC 86) 75 = some (0, 9) := by decide +kernel
theorem fl_86_85 : lk ftab (mC 86) 85 = some (0, 10) := by decide +kernel
theorem fl_86_98 : lk ftab (mC 86) 98 = some (0, 13) := by decide +kernel
theorem fl_86_144 : lk ftab (mC 86) 144 = some (0, 15) := by decide +kernel
theorem fl_86_213 : lk ftab (mC 86) 213 = some (0, 14) := by decide +kernel
theorem fl_86_276 : lk ftab (mC 86) 276 = some (0, 16) := by decide +kernel
theorem fl_88_37 : lk ftab (mC 88) 37 = some (2, 11) := by decide +kernel
theorem fl_88_40 : lk ftab (mC 88) 40 = some (2, 12) := by decide +kernel
theorem fl_88_59 : lk ftab (mC 88) 59 = some (2, 0) := by decide +kernel
theorem fl_88_67 : lk ftab (mC 88) 67 = some (2, 2) := by decide +kernel
theorem fl_88_98 : lk ftab (mC 88) 98 = some (0, 13) := by decide +kernel
theorem fl_88_134 : lk ftab (mC 88) 134 = some (0, 0) := by decide +kernel
theorem fl_88_137 : lk ftab (mC 88) 137 = some (0, 1) := by decide +kernel
theorem fl_88_216 : lk ftab (mC 88) 216 = some (7, 4) := by decide +kernel
theorem fl_88_270 : lk ftab (mC 88) 270 = some (7, 5) := by decide +kernel
theorem fl_89_11 : lk ftab (mC 89) 11 = some (2, 4) := by decide +kernel
theorem fl_89_17 : lk ftab (mC 89) 17 = some (2, 5) := by decide +kernel
theorem fl_89_27 : lk ftab (mC 89) 27 = some (2, 8) := by decide +kernel
theorem fl_89_31 : lk ftab (mC 89) 31 = some (2, 9) := by decide +kernel
theorem fl_89_37 : lk ftab (mC 89) 37 = some (2, 11) := by decide +kernel
theorem fl_89_40 : lk ftab (mC 89) 40 = some (2, 12) := by decide +kernel
theorem fl_89_53 : lk ftab (mC 89) 53 = some (2, 16) := by decide +kernel
theorem fl_89_56 : lk ftab (mC 89) 56 = some (2, 17) := by decide +kernel
theorem fl_89_75 : lk ftab (mC 89) 75 = some (0, 9) := by decide +kernel
theorem fl_89_78 : lk ftab (mC 89) 78 = some (0, 12) := by decide +kernel
theorem fl_89_144 : lk ftab (mC 89) 144 = some (0, 15) := by decide +kernel
theorem fl_89_223 : lk ftab (mC 89) 223 = some (0, 18) := by decide +kernel
theorem fl_90_55 : lk ftab (mC 90) 55 = some (9, 6) := by decide +kernel
theorem fl_91_11 : lk ftab (mC 91) 11 = some (2, 4) := by decide +kernel
theorem fl_91_17 : lk ftab (mC 91) 17 = some (2, 5) := by decide +kernel
theorem fl_92_30 : lk ftab (mC 92) 30 = some (0, 6) := by decide +kernel
theorem fl_92_49 : lk ftab (mC 92) 49 = some (0, 12) := by decide +kernel
theorem fl_93_40 : lk ftab (mC 93) 40 = some (0, 9) := by decide +kernel
theorem fl_94_11 : lk ftab (mC 94) 11 = some (2, 4) := by decide +kernel
theorem fl_94_17 : lk ftab (mC 94) 17 = some (2, 5) := by decide +kernel
theorem fl_95_46 : lk ftab (mC 95) 46 = some (9, 5) := by decide +kernel
theorem fl_95_157 : lk ftab (mC 95) 157 = some (6, 1) := by decide +kernel
theorem fl_96_9 : lk ftab (mC 96) 9 = some (6, 0) := by decide +kernel
theorem fl_96_15 : lk ftab (mC 96) 15 = some (6, 1) := by decide +kernel
theorem fl_97_30 : lk ftab (mC 97) 30 = some (9, 3) := by decide +kernel
theorem fl_97_46 : lk ftab (mC 97) 46 = some (9, 5) := by decide +kernel
theorem fl_97_150 : lk ftab (mC 97) 150 = some (5, 6) := by decide +kernel
theorem fl_97_284 : lk ftab (mC 97) 284 = some (6, 2) := by decide +kernel
theorem fl_97_287 : lk ftab (mC 97) 287 = some (5, 0) := by decide +kernel
theorem fl_98_15 : lk ftab (mC 98) 15 = some (6, 1) := by decide +kernel
theorem fl_98_19 : lk ftab (mC 98) 19 = some (6, 2) := by decide +kernel
theorem fl_98_22 : lk ftab (mC 98) 22 = some (6, 3) := by decide +kernel
theorem fl_98_25 : lk ftab (mC 98) 25 = some (6, 4) := by decide +kernel
theorem fl_98_36 : lk ftab (mC 98) 36 = some (5, 6) := by decide +kernel
theorem fl_98_41 : lk ftab (mC 98) 41 = some (5, 1) := by decide +kernel
theorem fl_99_15 : lk ftab (mC 99) 15 = some (6, 1) := by decide +kernel
theorem fl_99_25 : lk ftab (mC 99) 25 = some (6, 4) := by decide +kernel
theorem fl_100_9 : lk ftab (mC 100) 9 = some (6, 0) := by decide +kernel
theorem fl_100_15 : lk ftab (mC 100) 15 = some (6, 1) := by decide +kernel
theorem fl_100_25 : lk ftab (mC 100) 25 = some (6, 4) := by decide +kernel
theorem fl_101_25 : lk ftab (mC 101) 25 = some (6, 4) := by decide +kernel
theorem fl_101_36 : lk ftab (mC 101) 36 = some (5, 6) := by decide +kernel
theorem fl_101_57 : lk ftab (mC 101) 57 = some (5, 2) := by decide +kernel
theorem fl_102_9 : lk ftab (mC 102) 9 = some (6, 0) := by decide +kernel
theorem fl_102_15 : lk ftab (mC 102) 15 = some (6, 1) := by decide +kernel
theorem fl_102_25 : lk ftab (mC 102) 25 = some (6, 4) := by decide +kernel
theorem fl_103_9 : lk ftab (mC 103) 9 = some (6, 0) := by decide +kernel
theorem fl_104_19 : lk ftab (mC 104) 19 = some (6, 2) := by decide +kernel
theorem fl_104_22 : lk ftab (mC 104) 22 = some (6, 3) := by decide +kernel
theorem fl_105_25 : lk ftab (mC 105) 25 = some (6, 4) := by decide +kernel
theorem fl_105_77 : lk ftab (mC 105) 77 = some (5, 3) := by decide +kernel
theorem fl_105_80 : lk ftab (mC 105) 80 = some (5, 4) := by decide +kernel
theorem fl_106_9 : lk ftab (mC 106) 9 = some (6, 0) := by decide +kernel
theorem fl_106_15 : lk ftab (mC 106) 15 = some (6, 1) := by decide +kernel
theorem fl_106_25 : lk ftab (mC 106) 25 = some (6, 4) := by decide +kernel
theorem fl_107_36 : lk ftab (mC 107) 36 = some (5, 6) := by decide +kernel
theorem fl_107_77 : lk ftab (mC 107) 77 = some (5, 3) := by decide +kernel
theorem fl_107_80 : lk ftab (mC 107) 80 = some (5, 4) := by decide +kernel
theorem fl_107_91 : lk ftab (mC 107) 91 = some (5, 5) := by decide +kernel
theorem fl_108_9 : lk ftab (mC 108) 9 = some (6, 0) := by decide +kernel
theorem fl_108_15 : lk ftab (mC 108) 15 = some (6, 1) := by decide +kernel
theorem fl_108_25 : lk ftab (mC 108) 25 = some (6, 4) := by decide +kernel
theorem fl_109_19 : lk ftab (mC 109) 19 = some (6, 2) := by decide +kernel
theorem fl_109_25 : lk ftab (mC 109) 25 = some (6, 4) := by decide +kernel
theorem fl_110_25 : lk ftab (mC 110) 25 = some (6, 4) := by decide +kernel
theorem fl_111_46 : lk ftab (mC 111) 46 = some (9, 5) := by decide +kernel
theorem fl_111_290 : lk ftab (mC 111) 290 = some (6, 3) := by decide +kernel
theorem fl_112_39 : lk ftab (mC 112) 39 = some (9, 4) := by decide +kernel
theorem fl_112_178 : lk ftab (mC 112) 178 = some (7, 7) := by decide +kernel
theorem fl_112_299 : lk ftab (mC 112) 299 = some (7, 4) := by decide +kernel
theorem fl_112_302 : lk ftab (mC 112) 302 = some (7, 5) := by decide +kernel
theorem fl_112_305 : lk ftab (mC 112) 305 = some (7, 6) := by decide +kernel
theorem fl_112_308 : lk ftab (mC 112) 308 = some (7, 8) := by decide +kernel
theorem fl_112_311 : lk ftab (mC 112) 311 = some (7, 9) := by decide +kernel
theorem fl_113_37 : lk ftab (mC 113) 37 = some (7, 9) := by decide +kernel
theorem fl_113_40 : lk ftab (mC 113) 40 = some (7, 10) := by decide +kernel
theorem fl_114_62 : lk ftab (mC 114) 62 = some (9, 7) := by decide +kernel
theorem fl_114_151 : lk ftab (mC 114) 151 = some (1, 0) := by decide +kernel
theorem fl_115_9 : lk ftab (mC 115) 9 = some (1, 0) := by decide +kernel
theorem fl_115_15 : lk ftab (mC 115) 15 = some (1, 1) := by decide +kernel
theorem fl_116_19 : lk ftab (mC 116) 19 = some (1, 2) := by decide +kernel
theorem fl_117_15 : lk ftab (mC 117) 15 = some (1, 1) := by decide +kernel
theorem fl_117_19 : lk ftab (mC 117) 19 = some (1, 2) := by decide +kernel
theorem fl_118_62 : lk ftab (mC 118) 62 = some (9, 7) := by decide +kernel
theorem fl_118_324 : lk ftab (mC 118) 324 = some (1, 1) := by decide +kernel
theorem fl_120_19 : lk ftab (mC 120) 19 = some (1, 2) := by decide +kernel
theorem fl_121_69 : lk ftab (mC 121) 69 = some (9, 8) := by decide +kernel
theorem fl_121_330 : lk ftab (mC 121) 330 = some (3, 0) := by decide +kernel
theorem fl_122_69 : lk ftab (mC 122) 69 = some (9, 8) := by decide +kernel
theorem fl_122_339 : lk ftab (mC 122) 339 = some (3, 1) := by decide +kernel
theorem fl_123_9 : lk ftab (mC 123) 9 = some (3, 0) := by decide +kernel
theorem fl_123_15 : lk ftab (mC 123) 15 = some (3, 1) := by decide +kernel
theorem fl_124_15 : lk ftab (mC 124) 15 = some (3, 1) := by decide +kernel
theorem fl_125_15 : lk ftab (mC 125) 15 = some (3, 1) := by decide +kernel
theorem fl_126_12 : lk ftab (mC 126) 12 = some (9, 0) := by decide +kernel
theorem fl_126_30 : lk ftab (mC 126) 30 = some (9, 3) := by decide +kernel
theorem fl_126_55 : lk ftab (mC 126) 55 = some (9, 6) := by decide +kernel
theorem fl_126_73 : lk ftab (mC 126) 73 = some (9, 9) := by decide +kernel
theorem fl_126_147 : lk ftab (mC 126) 147 = some (2, 7) := by decide +kernel
theorem fl_126_150 : lk ftab (mC 126) 150 = some (5, 6) := by decide +kernel
theorem fl_126_154 : lk ftab (mC 126) 154 = some (4, 5) := by decide +kernel
theorem fl_127_17 : lk ftab (mC 127) 17 = some (2, 5) := by decide +kernel
theorem fl_127_21 : lk ftab (mC 127) 21 = some (2, 6) := by decide +kernel
theorem fl_127_24 : lk ftab (mC 127) 24 = some (2, 7) := by decide +kernel
theorem fl_127_34 : lk ftab (mC 127) 34 = some (2, 10) := by decide +kernel
theorem fl_127_40 : lk ftab (mC 127) 40 = some (2, 12) := by decide +kernel
theorem fl_127_43 : lk ftab (mC 127) 43 = some (2, 13) := by decide +kernel
theorem fl_127_46 : lk ftab (mC 127) 46 = some (2, 14) := by decide +kernel
theorem fl_128_11 : lk ftab (mC 128) 11 = some (2, 4) := by decide +kernel
theorem fl_128_17 : lk ftab (mC 128) 17 = some (2, 5) := by decide +kernel
theorem fl_128_21 : lk ftab (mC 128) 21 = some (2, 6) := by decide +kernel
theorem fl_128_59 : lk ftab (mC 128) 59 = some (2, 0) := by decide +kernel
theorem fl_128_113 : lk ftab (mC 128) 113 = some (0, 3) := by decide +kernel
theorem fl_128_116 : lk ftab (mC 128) 116 = some (0, 4) := by decide +kernel
theorem fl_128_134 : lk ftab (mC 128) 134 = some (0, 0) := by decide +kernel
theorem fl_128_137 : lk ftab (mC 128) 137 = some (0, 1) := by decide +kernel
theorem fl_128_151 : lk ftab (mC 128) 151 = some (0, 5) := by decide +kernel
theorem fl_128_164 : lk ftab (mC 128) 164 = some (0, 7) := by decide +kernel
theorem fl_128_179 : lk ftab (mC 128) 179 = some (0, 2) := by decide +kernel
theorem fl_129_40 : lk ftab (mC 129) 40 = some (0, 9) := by decide +kernel
theorem fl_129_43 : lk ftab (mC 129) 43 = some (0, 10) := by decide +kernel
theorem fl_129_46 : lk ftab (mC 129) 46 = some (0, 11) := by decide +kernel
theorem fl_129_49 : lk ftab (mC 129) 49 = some (0, 12) := by decide +kernel
theorem fl_129_54 : lk ftab (mC 129) 54 = some (0, 13) := by decide +kernel
theorem fl_129_57 : lk ftab (mC 129) 57 = some (0, 14) := by decide +kernel
theorem fl_129_60 : lk ftab (mC 129) 60 = some (0, 15) := by decide +kernel
theorem fl_129_63 : lk ftab (mC 129) 63 = some (0, 16) := by decide +kernel
theorem fl_130_12 : lk ftab (mC 130) 12 = some (9, 0) := by decide +kernel
theorem fl_130_154 : lk ftab (mC 130) 154 = some (4, 5) := by decide +kernel
theorem fl_130_346 : lk ftab (mC 130) 346 = some (4, 3) := by decide +kernel
theorem fl_131_12 : lk ftab (mC 131) 12 = some (9, 0) := by decide +kernel
theorem fl_131_154 : lk ftab (mC 131) 154 = some (4, 5) := by decide +kernel
theorem fl_132_12 : lk ftab (mC 132) 12 = some (9, 0) := by decide +kernel
theorem fl_132_55 : lk ftab (mC 132) 55 = some (9, 6) := by decide +kernel
theorem fl_132_73 : lk ftab (mC 132) 73 = some (9, 9) := by decide +kernel
theorem fl_132_76 : lk ftab (mC 132) 76 = some (9, 10) := by decide +kernel
theorem fl_132_79 : lk ftab (mC 132) 79 = some (9, 11) := by decide +kernel
theorem fl_133_21 : lk ftab (mC 133) 21 = some (4, 3) := by decide +kernel
theorem fl_133_28 : lk ftab (mC 133) 28 = some (4, 5) := by decide +kernel
theorem fl_135_7 : lk ftab (mC 135) 7 = some (10, 2) := by decide +kernel
theorem fl_135_13 : lk ftab (mC 135) 13 = some (10, 3) := by decide +kernel
theorem fl_135_16 : lk ftab (mC 135) 16 = some (10, 4) := by decide +kernel
theorem fl_135_129 : lk ftab (mC 135) 129 = some (10, 56) := by decide +kernel
theorem fl_135_132 : lk ftab (mC 135) 132 = some (10, 57) := by decide +kernel
theorem fl_135_135 : lk ftab (mC 135) 135 = some (10, 58) := by decide +kernel
theorem fl_135_187 : lk ftab (mC 135) 187 = some (10, 0) := by decide +kernel
theorem fl_135_202 : lk ftab (mC 135) 202 = some (10, 11) := by decide +kernel
theorem fl_139_19 : lk ftab (mC 139) 19 = some (10, 6) := by decide +kernel
theorem fl_139_22 : lk ftab (mC 139) 22 = some (10, 7) := by decide +kernel
theorem fl_139_25 : lk ftab (mC 139) 25 = some (10, 8) := by decide +kernel
theorem fl_139_28 : lk ftab (mC 139) 28 = some (10, 9) := by decide +kernel
theorem fl_139_216 : lk ftab (mC 139) 216 = some (10, 5) := by decide +kernel
theorem fl_140_187 : lk ftab (mC 140) 187 = some (10, 0) := by decide +kernel
theorem fl_142_31 : lk ftab (mC 142) 31 = some (10, 10) := by decide +kernel
theorem fl_143_40 : lk ftab (mC 143) 40 = some (10, 14) := by decide +kernel
theorem fl_144_34 : lk ftab (mC 144) 34 = some (10, 12) := by decide +kernel
theorem fl_144_43 : lk ftab (mC 144) 43 = some (10, 16) := by decide +kernel
theorem fl_144_202 : lk ftab (mC 144) 202 = some (10, 11) := by decide +kernel
theorem fl_144_225 : lk ftab (mC 144) 225 = some (10, 15) := by decide +kernel
theorem fl_145_16 : lk ftab (mC 145) 16 = some (10, 4) := by decide +kernel
theorem fl_145_187 : lk ftab (mC 145) 187 = some (10, 0) := by decide +kernel
theorem fl_145_228 : lk ftab (mC 145) 228 = some (10, 1) := by decide +kernel
theorem fl_146_7 : lk ftab (mC 146) 7 = some (10, 2) := by decide +kernel
theorem fl_146_13 : lk ftab (mC 146) 13 = some (10, 3) := by decide +kernel
theorem fl_147_34 : lk ftab (mC 147) 34 = some (10, 12) := by decide +kernel
theorem fl_147_37 : lk ftab (mC 147) 37 = some (10, 13) := by decide +kernel
theorem fl_147_40 : lk ftab (mC 147) 40 = some (10, 14) := by decide +kernel
theorem fl_147_225 : lk ftab (mC 147) 225 = some (10, 15) := by decide +kernel
theorem fl_149_34 : lk ftab (mC 149) 34 = some (10, 12) := by decide +kernel
theorem fl_149_37 : lk ftab (mC 149) 37 = some (10, 13) := by decide +kernel
theorem fl_149_40 : lk ftab (mC 149) 40 = some (10, 14) := by decide +kernel
theorem fl_150_37 : lk ftab (mC 150) 37 = some (10, 13) := by decide +kernel
theorem fl_151_34 : lk ftab (mC 151) 34 = some (10, 12) := by decide +kernel
theorem fl_151_37 : lk ftab (mC 151) 37 = some (10, 13) := by decide +kernel
theorem fl_151_40 : lk ftab (mC 151) 40 = some (10, 14) := by decide +kernel
theorem fl_152_43 : lk ftab (mC 152) 43 = some (10, 16) := by decide +kernel
theorem fl_153_43 : lk ftab (mC 153) 43 = some (10, 16) := by decide +kernel
theorem fl_154_37 : lk ftab (mC 154) 37 = some (10, 13) := by decide +kernel
theorem fl_155_64 : lk ftab (mC 155) 64 = some (10, 25) := by decide +kernel
theorem fl_155_271 : lk ftab (mC 155) 271 = some (10, 26) := by decide +kernel
theorem fl_156_46 : lk ftab (mC 156) 46 = some (10, 18) := by decide +kernel
theorem fl_156_49 : lk ftab (mC 156) 49 = some (10, 19) := by decide +kernel
theorem fl_156_67 : lk ftab (mC 156) 67 = some (10, 29) := by decide +kernel
theorem fl_156_271 : lk ftab (mC 156) 271 = some (10, 26) := by decide +kernel
theorem fl_156_276 : lk ftab (mC 156) 276 = some (10, 27) := by decide +kernel
theorem fl_156_279 : lk ftab (mC 156) 279 = some (10, 28) := by decide +kernel
theorem fl_156_286 : lk ftab (mC 156) 286 = some (10, 30) := by decide +kernel
theorem fl_156_331 : lk ftab (mC 156) 331 = some (10, 17) := by decide +kernel
theorem fl_157_64 : lk ftab (mC 157) 64 = some (10, 25) := by decide +kernel
theorem fl_157_271 : lk ftab (mC 157) 271 = some (10, 26) := by decide +kernel
theorem fl_157_276 : lk ftab (mC 157) 276 = some (10, 27) := by decide +kernel
theorem fl_158_64 : lk ftab (mC 158) 64 = some (10, 25) := by decide +kernel
theorem fl_158_271 : lk ftab (mC 158) 271 = some (10, 26) := by decide +kernel
theorem fl_158_276 : lk ftab (mC 158) 276 = some (10, 27) := by decide +kernel
theorem fl_158_286 : lk ftab (mC 158) 286 = some (10, 30) := by decide +kernel
theorem fl_158_293 : lk ftab (mC 158) 293 = some (10, 31) := by decide +kernel
theorem fl_160_64 : lk ftab (mC 160) 64 = some (10, 25) := by decide +kernel
theorem fl_160_286 : lk ftab (mC 160) 286 = some (10, 30) := by decide +kernel
theorem fl_160_293 : lk ftab (mC 160) 293 = some (10, 31) := by decide +kernel
theorem fl_161_67 : lk ftab (mC 161) 67 = some (10, 29) := by decide +kernel
theorem fl_161_279 : lk ftab (mC 161) 279 = some (10, 28) := by decide +kernel
theorem fl_162_52 : lk ftab (mC 162) 52 = some (10, 20) := by decide +kernel
theorem fl_162_55 : lk ftab (mC 162) 55 = some (10, 21) := by decide +kernel
theorem fl_162_58 : lk ftab (mC 162) 58 = some (10, 22) := by decide +kernel
theorem fl_162_276 : lk ftab (mC 162) 276 = some (10, 27) := by decide +kernel
theorem fl_162_279 : lk ftab (mC 162) 279 = some (10, 28) := by decide +kernel
theorem fl_162_286 : lk ftab (mC 162) 286 = some (10, 30) := by decide +kernel
theorem fl_162_331 : lk ftab (mC 162) 331 = some (10, 17) := by decide +kernel
theorem fl_163_55 : lk ftab (mC 163) 55 = some (10, 21) := by decide +kernel
theorem fl_163_58 : lk ftab (mC 163) 58 = some (10, 22) := by decide +kernel
theorem fl_163_276 : lk ftab (mC 163) 276 = some (10, 27) := by decide +kernel
theorem fl_163_279 : lk ftab (mC 163) 279 = some (10, 28) := by decide +kernel
theorem fl_163_286 : lk ftab (mC 163) 286 = some (10, 30) := by decide +kernel
theorem fl_166_64 : lk ftab (mC 166) 64 = some (10, 25) := by decide +kernel
theorem fl_166_271 : lk ftab (mC 166) 271 = some (10, 26) := by decide +kernel
theorem fl_166_276 : lk ftab (mC 166) 276 = some (10, 27) := by decide +kernel
theorem fl_166_286 : lk ftab (mC 166) 286 = some (10, 30) := by decide +kernel
theorem fl_167_286 : lk ftab (mC 167) 286 = some (10, 30) := by decide +kernel
theorem fl_168_55 : lk ftab (mC 168) 55 = some (10, 21) := by decide +kernel
theorem fl_168_58 : lk ftab (mC 168) 58 = some (10, 22) := by decide +kernel
theorem fl_168_61 : lk ftab (mC 168) 61 = some (10, 23) := by decide +kernel
theorem fl_168_279 : lk ftab (mC 168) 279 = some (10, 28) := by decide +kernel
theorem fl_169_67 : lk ftab (mC 169) 67 = some (10, 29) := by decide +kernel
theorem fl_170_78 : lk ftab (mC 170) 78 = some (10, 35) := by decide +kernel
theorem fl_170_340 : lk ftab (mC 170) 340 = some (10, 24) := by decide +kernel
theorem fl_170_349 : lk ftab (mC 170) 349 = some (10, 36) := by decide +kernel
theorem fl_170_352 : lk ftab (mC 170) 352 = some (10, 37) := by decide +kernel
theorem fl_171_49 : lk ftab (mC 171) 49 = some (10, 19) := by decide +kernel
theorem fl_171_52 : lk ftab (mC 171) 52 = some (10, 20) := by decide +kernel
theorem fl_171_55 : lk ftab (mC 171) 55 = some (10, 21) := by decide +kernel
theorem fl_171_58 : lk ftab (mC 171) 58 = some (10, 22) := by decide +kernel
theorem fl_171_75 : lk ftab (mC 171) 75 = some (10, 33) := by decide +kernel
theorem fl_171_78 : lk ftab (mC 171) 78 = some (10, 35) := by decide +kernel
theorem fl_171_343 : lk ftab (mC 171) 343 = some (10, 34) := by decide +kernel
theorem fl_171_349 : lk ftab (mC 171) 349 = some (10, 36) := by decide +kernel
theorem fl_171_352 : lk ftab (mC 171) 352 = some (10, 37) := by decide +kernel
theorem fl_172_46 : lk ftab (mC 172) 46 = some (10, 18) := by decide +kernel
theorem fl_172_49 : lk ftab (mC 172) 49 = some (10, 19) := by decide +kernel
theorem fl_172_52 : lk ftab (mC 172) 52 = some (10, 20) := by decide +kernel
theorem fl_172_55 : lk ftab (mC 172) 55 = some (10, 21) := by decide +kernel
theorem fl_172_71 : lk ftab (mC 172) 71 = some (10, 32) := by decide +kernel
theorem fl_172_75 : lk ftab (mC 172) 75 = some (10, 33) := by decide +kernel
theorem fl_172_331 : lk ftab (mC 172) 331 = some (10, 17) := by decide +kernel
theorem fl_172_340 : lk ftab (mC 172) 340 = some (10, 24) := by decide +kernel
theorem fl_172_343 : lk ftab (mC 172) 343 = some (10, 34) := by decide +kernel
theorem fl_173_49 : lk ftab (mC 173) 49 = some (10, 19) := by decide +kernel
theorem fl_173_52 : lk ftab (mC 173) 52 = some (10, 20) := by decide +kernel
theorem fl_173_55 : lk ftab (mC 173) 55 = some (10, 21) := by decide +kernel
theorem fl_173_58 : lk ftab (mC 173) 58 = some (10, 22) := by decide +kernel
theorem fl_173_75 : lk ftab (mC 173) 75 = some (10, 33) := by decide +kernel
theorem fl_173_343 : lk ftab (mC 173) 343 = some (10, 34) := by decide +kernel
theorem fl_174_49 : lk ftab (mC 174) 49 = some (10, 19) := by decide +kernel
theorem fl_174_52 : lk ftab (mC 174) 52 = some (10, 20) := by decide +kernel
theorem fl_174_55 : lk ftab (mC 174) 55 = some (10, 21) := by decide +kernel
theorem fl_174_58 : lk ftab (mC 174) 58 = some (10, 22) := by decide +kernel
theorem fl_174_61 : lk ftab (mC 174) 61 = some (10, 23) := by decide +kernel
theorem fl_174_75 : lk ftab (mC 174) 75 = some (10, 33) := by decide +kernel
theorem fl_174_343 : lk ftab (mC 174) 343 = some (10, 34) := by decide +kernel
theorem fl_175_372 : lk ftab (mC 175) 372 = some (10, 39) := by decide +kernel
theorem fl_175_378 : lk ftab (mC 175) 378 = some (10, 38) := by decide +kernel
theorem fl_176_81 : lk ftab (mC 176) 81 = some (10, 40) := by decide +kernel
theorem fl_176_84 : lk ftab (mC 176) 84 = some (10, 41) := by decide +kernel
theorem fl_176_87 : lk ftab (mC 176) 87 = some (10, 42) := by decide +kernel
theorem fl_176_90 : lk ftab (mC 176) 90 = some (10, 43) := by decide +kernel
theorem fl_176_93 : lk ftab (mC 176) 93 = some (10, 44) := by decide +kernel
theorem fl_176_96 : lk ftab (mC 176) 96 = some (10, 45) := by decide +kernel
theorem fl_176_99 : lk ftab (mC 176) 99 = some (10, 46) := by decide +kernel
theorem fl_176_102 : lk ftab (mC 176) 102 = some (10, 47) := by decide +kernel
theorem fl_176_372 : lk ftab (mC 176) 372 = some (10, 39) := by decide +kernel
theorem fl_176_378 : lk ftab (mC 176) 378 = some (10, 38) := by decide +kernel
theorem fl_177_7 : lk ftab (mC 177) 7 = some (10, 2) := by decide +kernel
theorem fl_177_13 : lk ftab (mC 177) 13 = some (10, 3) := by decide +kernel
theorem fl_177_78 : lk ftab (mC 177) 78 = some (10, 35) := by decide +kernel
theorem fl_177_81 : lk ftab (mC 177) 81 = some (10, 40) := by decide +kernel
theorem fl_177_84 : lk ftab (mC 177) 84 = some (10, 41) := by decide +kernel
theorem fl_177_187 : lk ftab (mC 177) 187 = some (10, 0) := by decide +kernel
theorem fl_177_340 : lk ftab (mC 177) 340 = some (10, 24) := by decide +kernel
theorem fl_177_372 : lk ftab (mC 177) 372 = some (10, 39) := by decide +kernel
theorem fl_177_378 : lk ftab (mC 177) 378 = some (10, 38) := by decide +kernel
theorem fl_178_105 : lk ftab (mC 178) 105 = some (10, 48) := by decide +kernel
theorem fl_179_105 : lk ftab (mC 179) 105 = some (10, 48) := by decide +kernel
theorem fl_179_108 : lk ftab (mC 179) 108 = some (10, 49) := by decide +kernel
theorem fl_179_111 : lk ftab (mC 179) 111 = some (10, 50) := by decide +kernel
theorem fl_179_114 : lk ftab (mC 179) 114 = some (10, 51) := by decide +kernel
theorem fl_179_117 : lk ftab (mC 179) 117 = some (10, 52) := by decide +kernel
theorem fl_179_120 : lk ftab (mC 179) 120 = some (10, 53) := by decide +kernel
theorem fl_179_123 : lk ftab (mC 179) 123 = some (10, 54) := by decide +kernel
theorem fl_180_105 : lk ftab (mC 180) 105 = some (10, 48) := by decide +kernel
theorem fl_180_111 : lk ftab (mC 180) 111 = some (10, 50) := by decide +kernel
theorem fl_180_123 : lk ftab (mC 180) 123 = some (10, 54) := by decide +kernel
theorem fl_180_378 : lk ftab (mC 180) 378 = some (10, 38) := by decide +kernel
theorem fl_181_372 : lk ftab (mC 181) 372 = some (10, 39) := by decide +kernel
theorem fl_182_117 : lk ftab (mC 182) 117 = some (10, 52) := by decide +kernel
theorem fl_182_129 : lk ftab (mC 182) 129 = some (10, 56) := by decide +kernel
theorem fl_183_81 : lk ftab (mC 183) 81 = some (10, 40) := by decide +kernel
theorem fl_183_84 : lk ftab (mC 183) 84 = some (10, 41) := by decide +kernel
theorem fl_183_87 : lk ftab (mC 183) 87 = some (10, 42) := by decide +kernel
theorem fl_183_102 : lk ftab (mC 183) 102 = some (10, 47) := by decide +kernel
theorem fl_183_105 : lk ftab (mC 183) 105 = some (10, 48) := by decide +kernel
theorem fl_183_108 : lk ftab (mC 183) 108 = some (10, 49) := by decide +kernel
theorem fl_183_111 : lk ftab (mC 183) 111 = some (10, 50) := by decide +kernel
theorem fl_183_372 : lk ftab (mC 183) 372 = some (10, 39) := by decide +kernel
theorem fl_183_378 : lk ftab (mC 183) 378 = some (10, 38) := by decide +kernel
theorem fl_184_340 : lk ftab (mC 184) 340 = some (10, 24) := by decide +kernel
theorem fl_184_378 : lk ftab (mC 184) 378 = some (10, 38) := by decide +kernel
theorem fl_185_147 : lk ftab (mC 185) 147 = some (10, 63) := by decide +kernel
theorem fl_185_372 : lk ftab (mC 185) 372 = some (10, 39) := by decide +kernel
theorem fl_186_40 : lk ftab (mC 186) 40 = some (10, 14) := by decide +kernel
theorem fl_186_78 : lk ftab (mC 186) 78 = some (10, 35) := by decide +kernel
theorem fl_186_81 : lk ftab (mC 186) 81 = some (10, 40) := by decide +kernel
theorem fl_186_84 : lk ftab (mC 186) 84 = some (10, 41) := by decide +kernel
theorem fl_187_87 : lk ftab (mC 187) 87 = some (10, 42) := by decide +kernel
theorem fl_187_105 : lk ftab (mC 187) 105 = some (10, 48) := by decide +kernel
theorem fl_187_108 : lk ftab (mC 187) 108 = some (10, 49) := by decide +kernel
theorem fl_187_111 : lk ftab (mC 187) 111 = some (10, 50) := by decide +kernel
theorem fl_187_372 : lk ftab (mC 187) 372 = some (10, 39) := by decide +kernel
theorem fl_188_105 : lk ftab (mC 188) 105 = some (10, 48) := by decide +kernel
theorem fl_188_111 : lk ftab (mC 188) 111 = some (10, 50) := by decide +kernel
theorem fl_188_129 : lk ftab (mC 188) 129 = some (10, 56) := by decide +kernel
theorem fl_188_187 : lk ftab (mC 188) 187 = some (10, 0) := by decide +kernel
theorem fl_189_19 : lk ftab (mC 189) 19 = some (10, 6) := by decide +kernel
theorem fl_189_22 : lk ftab (mC 189) 22 = some (10, 7) := by decide +kernel
theorem fl_189_25 : lk ftab (mC 189) 25 = some (10, 8) := by decide +kernel
theorem fl_189_28 : lk ftab (mC 189) 28 = some (10, 9) := by decide +kernel
theorem fl_189_216 : lk ftab (mC 189) 216 = some (10, 5) := by decide +kernel
theorem fl_190_105 : lk ftab (mC 190) 105 = some (10, 48) := by decide +kernel
theorem fl_190_123 : lk ftab (mC 190) 123 = some (10, 54) := by decide +kernel
theorem fl_191_372 : lk ftab (mC 191) 372 = some (10, 39) := by decide +kernel
theorem fl_191_418 : lk ftab (mC 191) 418 = some (10, 59) := by decide +kernel
theorem fl_193_105 : lk ftab (mC 193) 105 = some (10, 48) := by decide +kernel
theorem fl_193_117 : lk ftab (mC 193) 117 = some (10, 52) := by decide +kernel
theorem fl_193_123 : lk ftab (mC 193) 123 = some (10, 54) := by decide +kernel
theorem fl_193_126 : lk ftab (mC 193) 126 = some (10, 55) := by decide +kernel
theorem fl_193_129 : lk ftab (mC 193) 129 = some (10, 56) := by decide +kernel
theorem fl_194_349 : lk ftab (mC 194) 349 = some (10, 36) := by decide +kernel
theorem fl_194_352 : lk ftab (mC 194) 352 = some (10, 37) := by decide +kernel
theorem fl_195_87 : lk ftab (mC 195) 87 = some (10, 42) := by decide +kernel
theorem fl_195_90 : lk ftab (mC 195) 90 = some (10, 43) := by decide +kernel
theorem fl_195_96 : lk ftab (mC 195) 96 = some (10, 45) := by decide +kernel
theorem fl_195_147 : lk ftab (mC 195) 147 = some (10, 63) := by decide +kernel
theorem fl_196_31 : lk ftab (mC 196) 31 = some (10, 10) := by decide +kernel
theorem fl_196_81 : lk ftab (mC 196) 81 = some (10, 40) := by decide +kernel
theorem fl_196_105 : lk ftab (mC 196) 105 = some (10, 48) := by decide +kernel
theorem fl_196_141 : lk ftab (mC 196) 141 = some (10, 61) := by decide +kernel
theorem fl_196_144 : lk ftab (mC 196) 144 = some (10, 62) := by decide +kernel
theorem fl_196_437 : lk ftab (mC 196) 437 = some (10, 64) := by decide +kernel
theorem fl_197_105 : lk ftab (mC 197) 105 = some (10, 48) := by decide +kernel
theorem fl_197_144 : lk ftab (mC 197) 144 = some (10, 62) := by decide +kernel
theorem fl_197_372 : lk ftab (mC 197) 372 = some (10, 39) := by decide +kernel
theorem fl_197_437 : lk ftab (mC 197) 437 = some (10, 64) := by decide +kernel
theorem fl_198_90 : lk ftab (mC 198) 90 = some (10, 43) := by decide +kernel
theorem fl_198_93 : lk ftab (mC 198) 93 = some (10, 44) := by decide +kernel
theorem fl_199_78 : lk ftab (mC 199) 78 = some (10, 35) := by decide +kernel
theorem fl_199_105 : lk ftab (mC 199) 105 = some (10, 48) := by decide +kernel
theorem fl_199_117 : lk ftab (mC 199) 117 = some (10, 52) := by decide +kernel
theorem fl_199_120 : lk ftab (mC 199) 120 = some (10, 53) := by decide +kernel
theorem fl_199_126 : lk ftab (mC 199) 126 = some (10, 55) := by decide +kernel
theorem fl_200_78 : lk ftab (mC 200) 78 = some (10, 35) := by decide +kernel
theorem fl_200_81 : lk ftab (mC 200) 81 = some (10, 40) := by decide +kernel
theorem fl_200_84 : lk ftab (mC 200) 84 = some (10, 41) := by decide +kernel
theorem fl_201_129 : lk ftab (mC 201) 129 = some (10, 56) := by decide +kernel
theorem fl_202_123 : lk ftab (mC 202) 123 = some (10, 54) := by decide +kernel
theorem fl_202_126 : lk ftab (mC 202) 126 = some (10, 55) := by decide +kernel
theorem fl_203_117 : lk ftab (mC 203) 117 = some (10, 52) := by decide +kernel
theorem fl_203_120 : lk ftab (mC 203) 120 = some (10, 53) := by decide +kernel
theorem fl_203_123 : lk ftab (mC 203) 123 = some (10, 54) := by decide +kernel
theorem fl_203_126 : lk ftab (mC 203) 126 = some (10, 55) := by decide +kernel
theorem fl_203_129 : lk ftab (mC 203) 129 = some (10, 56) := by decide +kernel
theorem fl_204_105 : lk ftab (mC 204) 105 = some (10, 48) := by decide +kernel
theorem fl_204_108 : lk ftab (mC 204) 108 = some (10, 49) := by decide +kernel
theorem fl_205_78 : lk ftab (mC 205) 78 = some (10, 35) := by decide +kernel
theorem fl_205_81 : lk ftab (mC 205) 81 = some (10, 40) := by decide +kernel
theorem fl_205_84 : lk ftab (mC 205) 84 = some (10, 41) := by decide +kernel
theorem fl_205_105 : lk ftab (mC 205) 105 = some (10, 48) := by decide +kernel
theorem fl_205_114 : lk ftab (mC 205) 114 = some (10, 51) := by decide +kernel
theorem fl_205_129 : lk ftab (mC 205) 129 = some (10, 56) := by decide +kernel
theorem fl_205_132 : lk ftab (mC 205) 132 = some (10, 57) := by decide +kernel
theorem fl_205_135 : lk ftab (mC 205) 135 = some (10, 58) := by decide +kernel
theorem fl_205_150 : lk ftab (mC 205) 150 = some (10, 65) := by decide +kernel
theorem fl_205_187 : lk ftab (mC 205) 187 = some (10, 0) := by decide +kernel
theorem fl_205_228 : lk ftab (mC 205) 228 = some (10, 1) := by decide +kernel
theorem fl_205_372 : lk ftab (mC 205) 372 = some (10, 39) := by decide +kernel
theorem fl_206_81 : lk ftab (mC 206) 81 = some (10, 40) := by decide +kernel
theorem fl_206_84 : lk ftab (mC 206) 84 = some (10, 41) := by decide +kernel
theorem fl_206_87 : lk ftab (mC 206) 87 = some (10, 42) := by decide +kernel
theorem fl_206_90 : lk ftab (mC 206) 90 = some (10, 43) := by decide +kernel
theorem fl_206_93 : lk ftab (mC 206) 93 = some (10, 44) := by decide +kernel
theorem fl_206_96 : lk ftab (mC 206) 96 = some (10, 45) := by decide +kernel
theorem fl_206_99 : lk ftab (mC 206) 99 = some (10, 46) := by decide +kernel
theorem fl_206_105 : lk ftab (mC 206) 105 = some (10, 48) := by decide +kernel
theorem fl_206_108 : lk ftab (mC 206) 108 = some (10, 49) := by decide +kernel
theorem fl_206_111 : lk ftab (mC 206) 111 = some (10, 50) := by decide +kernel
theorem fl_206_114 : lk ftab (mC 206) 114 = some (10, 51) := by decide +kernel
theorem fl_206_117 : lk ftab (mC 206) 117 = some (10, 52) := by decide +kernel
theorem fl_206_123 : lk ftab (mC 206) 123 = some (10, 54) := by decide +kernel
theorem fl_206_340 : lk ftab (mC 206) 340 = some (10, 24) := by decide +kernel
theorem fl_207_78 : lk ftab (mC 207) 78 = some (10, 35) := by decide +kernel
theorem fl_207_87 : lk ftab (mC 207) 87 = some (10, 42) := by decide +kernel
theorem fl_207_90 : lk ftab (mC 207) 90 = some (10, 43) := by decide +kernel
theorem fl_207_93 : lk ftab (mC 207) 93 = some (10, 44) := by decide +kernel
theorem fl_207_105 : lk ftab (mC 207) 105 = some (10, 48) := by decide +kernel
theorem fl_207_108 : lk ftab (mC 207) 108 = some (10, 49) := by decide +kernel
theorem fl_207_111 : lk ftab (mC 207) 111 = some (10, 50) := by decide +kernel
theorem fl_208_16 : lk ftab (mC 208) 16 = some (10, 4) := by decide +kernel
theorem fl_208_123 : lk ftab (mC 208) 123 = some (10, 54) := by decide +kernel
theorem fl_208_126 : lk ftab (mC 208) 126 = some (10, 55) := by decide +kernel
theorem fl_209_123 : lk ftab (mC 209) 123 = some (10, 54) := by decide +kernel
theorem fl_209_126 : lk ftab (mC 209) 126 = some (10, 55) := by decide +kernel
theorem fl_210_7 : lk ftab (mC 210) 7 = some (10, 2) := by decide +kernel
theorem fl_210_13 : lk ftab (mC 210) 13 = some (10, 3) := by decide +kernel
theorem fl_210_16 : lk ftab (mC 210) 16 = some (10, 4) := by decide +kernel
theorem fl_210_129 : lk ftab (mC 210) 129 = some (10, 56) := by decide +kernel
theorem fl_210_132 : lk ftab (mC 210) 132 = some (10, 57) := by decide +kernel
theorem fl_210_135 : lk ftab (mC 210) 135 = some (10, 58) := by decide +kernel
theorem fl_210_378 : lk ftab (mC 210) 378 = some (10, 38) := by decide +kernel
theorem fl_211_187 : lk ftab (mC 211) 187 = some (10, 0) := by decide +kernel
theorem fl_211_271 : lk ftab (mC 211) 271 = some (10, 26) := by decide +kernel
theorem fl_211_331 : lk ftab (mC 211) 331 = some (10, 17) := by decide +kernel
theorem fl_211_340 : lk ftab (mC 211) 340 = some (10, 24) := by decide +kernel
theorem fl_211_372 : lk ftab (mC 211) 372 = some (10, 39) := by decide +kernel
theorem fl_211_378 : lk ftab (mC 211) 378 = some (10, 38) := by decide +kernel
theorem fl_211_418 : lk ftab (mC 211) 418 = some (10, 59) := by decide +kernel
theorem fl_211_481 : lk ftab (mC 211) 481 = some (10, 66) := by decide +kernel
theorem fl_211_484 : lk ftab (mC 211) 484 = some (10, 72) := by decide +kernel
theorem fl_212_105 : lk ftab (mC 212) 105 = some (10, 48) := by decide +kernel
theorem fl_212_372 : lk ftab (mC 212) 372 = some (10, 39) := by decide +kernel
theorem fl_213_105 : lk ftab (mC 213) 105 = some (10, 48) := by decide +kernel
theorem fl_213_114 : lk ftab (mC 213) 114 = some (10, 51) := by decide +kernel
theorem fl_213_372 : lk ftab (mC 213) 372 = some (10, 39) := by decide +kernel
theorem fl_214_372 : lk ftab (mC 214) 372 = some (10, 39) := by decide +kernel
theorem fl_215_99 : lk ftab (mC 215) 99 = some (10, 46) := by decide +kernel
theorem fl_215_108 : lk ftab (mC 215) 108 = some (10, 49) := by decide +kernel
theorem fl_215_114 : lk ftab (mC 215) 114 = some (10, 51) := by decide +kernel
theorem fl_215_372 : lk ftab (mC 215) 372 = some (10, 39) := by decide +kernel
theorem fl_216_153 : lk ftab (mC 216) 153 = some (10, 67) := by decide +kernel
theorem fl_216_481 : lk ftab (mC 216) 481 = some (10, 66) := by decide +kernel
theorem fl_218_156 : lk ftab (mC 218) 156 = some (10, 69) := by decide +kernel
theorem fl_218_499 : lk ftab (mC 218) 499 = some (10, 68) := by decide +kernel
theorem fl_219_153 : lk ftab (mC 219) 153 = some (10, 67) := by decide +kernel
theorem fl_219_156 : lk ftab (mC 219) 156 = some (10, 69) := by decide +kernel
theorem fl_219_499 : lk ftab (mC 219) 499 = some (10, 68) := by decide +kernel
theorem fl_220_159 : lk ftab (mC 220) 159 = some (10, 70) := by decide +kernel
theorem fl_221_159 : lk ftab (mC 221) 159 = some (10, 70) := by decide +kernel
theorem fl_222_159 : lk ftab (mC 222) 159 = some (10, 70) := by decide +kernel
theorem fl_222_162 : lk ftab (mC 222) 162 = some (10, 71) := by decide +kernel
theorem fl_223_159 : lk ftab (mC 223) 159 = some (10, 70) := by decide +kernel
theorem fl_223_162 : lk ftab (mC 223) 162 = some (10, 71) := by decide +kernel
theorem fl_224_165 : lk ftab (mC 224) 165 = some (10, 73) := by decide +kernel
theorem fl_224_168 : lk ftab (mC 224) 168 = some (10, 74) := by decide +kernel
theorem fl_224_171 : lk ftab (mC 224) 171 = some (10, 75) := by decide +kernel
theorem fl_224_174 : lk ftab (mC 224) 174 = some (10, 76) := by decide +kernel
theorem fl_224_484 : lk ftab (mC 224) 484 = some (10, 72) := by decide +kernel
theorem fl_225_331 : lk ftab (mC 225) 331 = some (10, 17) := by decide +kernel
theorem fl_225_484 : lk ftab (mC 225) 484 = some (10, 72) := by decide +kernel
theorem fl_225_526 : lk ftab (mC 225) 526 = some (10, 78) := by decide +kernel
theorem fl_225_529 : lk ftab (mC 225) 529 = some (10, 79) := by decide +kernel
theorem fl_225_532 : lk ftab (mC 225) 532 = some (10, 80) := by decide +kernel
theorem fl_225_535 : lk ftab (mC 225) 535 = some (10, 81) := by decide +kernel
theorem fl_225_538 : lk ftab (mC 225) 538 = some (10, 82) := by decide +kernel
theorem fl_226_96 : lk ftab (mC 226) 96 = some (10, 45) := by decide +kernel
theorem fl_226_105 : lk ftab (mC 226) 105 = some (10, 48) := by decide +kernel
theorem fl_226_108 : lk ftab (mC 226) 108 = some (10, 49) := by decide +kernel
theorem fl_226_111 : lk ftab (mC 226) 111 = some (10, 50) := by decide +kernel
theorem fl_226_129 : lk ftab (mC 226) 129 = some (10, 56) := by decide +kernel
theorem fl_226_177 : lk ftab (mC 226) 177 = some (10, 77) := by decide +kernel
theorem fl_226_202 : lk ftab (mC 226) 202 = some (10, 11) := by decide +kernel
theorem fl_226_228 : lk ftab (mC 226) 228 = some (10, 1) := by decide +kernel
theorem fl_226_340 : lk ftab (mC 226) 340 = some (10, 24) := by decide +kernel
theorem fl_226_372 : lk ftab (mC 226) 372 = some (10, 39) := by decide +kernel
theorem fl_226_378 : lk ftab (mC 226) 378 = some (10, 38) := by decide +kernel
theorem fl_226_418 : lk ftab (mC 226) 418 = some (10, 59) := by decide +kernel
theorem fl_226_526 : lk ftab (mC 226) 526 = some (10, 78) := by decide +kernel
theorem fl_226_529 : lk ftab (mC 226) 529 = some (10, 79) := by decide +kernel
theorem fl_226_532 : lk ftab (mC 226) 532 = some (10, 80) := by decide +kernel
theorem fl_226_535 : lk ftab (mC 226) 535 = some (10, 81) := by decide +kernel
theorem fl_226_538 : lk ftab (mC 226) 538 = some (10, 82) := by decide +kernel
theorem fl_227_105 : lk ftab (mC 227) 105 = some (10, 48) := by decide +kernel
theorem fl_227_108 : lk ftab (mC 227) 108 = some (10, 49) := by decide +kernel
theorem fl_227_111 : lk ftab (mC 227) 111 = some (10, 50) := by decide +kernel
theorem fl_227_114 : lk ftab (mC 227) 114 = some (10, 51) := by decide +kernel
theorem fl_227_117 : lk ftab (mC 227) 117 = some (10, 52) := by decide +kernel
theorem fl_227_120 : lk ftab (mC 227) 120 = some (10, 53) := by decide +kernel
theorem fl_227_123 : lk ftab (mC 227) 123 = some (10, 54) := by decide +kernel
theorem fl_227_126 : lk ftab (mC 227) 126 = some (10, 55) := by decide +kernel
theorem fl_227_129 : lk ftab (mC 227) 129 = some (10, 56) := by decide +kernel
theorem fl_227_132 : lk ftab (mC 227) 132 = some (10, 57) := by decide +kernel
theorem fl_227_135 : lk ftab (mC 227) 135 = some (10, 58) := by decide +kernel
theorem fl_227_418 : lk ftab (mC 227) 418 = some (10, 59) := by decide +kernel
theorem fl_228_138 : lk ftab (mC 228) 138 = some (10, 60) := by decide +kernel
theorem fl_229_7 : lk ftab (mC 229) 7 = some (10, 2) := by decide +kernel
theorem fl_229_13 : lk ftab (mC 229) 13 = some (10, 3) := by decide +kernel
theorem fl_229_16 : lk ftab (mC 229) 16 = some (10, 4) := by decide +kernel
theorem fl_229_165 : lk ftab (mC 229) 165 = some (10, 73) := by decide +kernel
theorem fl_229_168 : lk ftab (mC 229) 168 = some (10, 74) := by decide +kernel
theorem fl_229_171 : lk ftab (mC 229) 171 = some (10, 75) := by decide +kernel
theorem fl_229_187 : lk ftab (mC 229) 187 = some (10, 0) := by decide +kernel
theorem fl_229_202 : lk ftab (mC 229) 202 = some (10, 11) := by decide +kernel
theorem fl_229_228 : lk ftab (mC 229) 228 = some (10, 1) := by decide +kernel
theorem fl_229_484 : lk ftab (mC 229) 484 = some (10, 72) := by decide +kernel
theorem fl_230_174 : lk ftab (mC 230) 174 = some (10, 76) := by decide +kernel
theorem fl_230_484 : lk ftab (mC 230) 484 = some (10, 72) := by decide +kernel
theorem fl_230_526 : lk ftab (mC 230) 526 = some (10, 78) := by decide +kernel
theorem cl_11_83 : lk ctab (mC 11) 83 = some (1, 12) := by decide +kernel
theorem cl_11_88 : lk ctab (mC 11) 88 = some (1, 13) := by decide +kernel
theorem cl_11_97 : lk ctab (mC 11) 97 = some (0, 14) := by decide +kernel
theorem cl_11_100 : lk ctab (mC 11) 100 = some (0, 15) := by decide +kernel
theorem cl_11_104 : lk ctab (mC 11) 104 = some (0, 16) := by decide +kernel
theorem cl_12_88 : lk ctab (mC 12) 88 = some (1, 13) := by decide +kernel
theorem cl_15_46 : lk ctab (mC 15) 46 = some (0, 2) := by decide +kernel
theorem cl_17_88 : lk ctab (mC 17) 88 = some (1, 13) := by decide +kernel
theorem cl_17_97 : lk ctab (mC 17) 97 = some (0, 14) := by decide +kernel
theorem cl_17_111 : lk ctab (mC 17) 111 = some (0, 18) := by decide +kernel
theorem cl_17_117 : lk ctab (mC 17) 117 = some (0, 19) := by decide +kernel
theorem cl_18_88 : lk ctab (mC 18) 88 = some (1, 13) := by decide +kernel
theorem cl_20_83 : lk ctab (mC 20) 83 = some (1, 12) := by decide +kernel
theorem cl_20_88 : lk ctab (mC 20) 88 = some (1, 13) := by decide +kernel
theorem cl_20_97 : lk ctab (mC 20) 97 = some (0, 14) := by decide +kernel
theorem cl_21_111 : lk ctab (mC 21) 111 = some (0, 18) := by decide +kernel
theorem cl_21_132 : lk ctab (mC 21) 132 = some (0, 22) := by decide +kernel
theorem cl_21_136 : lk ctab (mC 21) 136 = some (0, 23) := by decide +kernel
theorem cl_22_28 : lk ctab (mC 22) 28 = some (3, 13) := by decide +kernel
theorem cl_24_88 : lk ctab (mC 24) 88 = some (1, 13) := by decide +kernel
theorem cl_24_160 : lk ctab (mC 24) 160 = some (0, 25) := by decide +kernel
theorem cl_24_163 : lk ctab (mC 24) 163 = some (0, 26) := by decide +kernel
theorem cl_24_166 : lk ctab (mC 24) 166 = some (0, 40) := by decide +kernel
theorem cl_26_81 : lk ctab (mC 26) 81 = some (0, 27) := by decide +kernel
theorem cl_27_88 : lk ctab (mC 27) 88 = some (0, 28) := by decide +kernel
theorem cl_27_94 : lk ctab (mC 27) 94 = some (0, 36) := by decide +kernel
theorem cl_27_101 : lk ctab (mC 27) 101 = some (1, 37) := by decide +kernel
theorem cl_27_107 : lk ctab (mC 27) 107 = some (0, 38) := by decide +kernel
theorem cl_27_110 : lk ctab (mC 27) 110 = some (0, 39) := by decide +kernel
theorem cl_28_47 : lk ctab (mC 28) 47 = some (0, 29) := by decide +kernel
theorem cl_28_53 : lk ctab (mC 28) 53 = some (0, 30) := by decide +kernel
theorem cl_28_56 : lk ctab (mC 28) 56 = some (0, 32) := by decide +kernel
theorem cl_28_60 : lk ctab (mC 28) 60 = some (0, 33) := by decide +kernel
theorem cl_28_66 : lk ctab (mC 28) 66 = some (0, 34) := by decide +kernel
theorem cl_30_72 : lk ctab (mC 30) 72 = some (0, 31) := by decide +kernel
theorem cl_34_87 : lk ctab (mC 34) 87 = some (0, 35) := by decide +kernel
theorem cl_35_91 : lk ctab (mC 35) 91 = some (11, 0) := by decide +kernel
theorem cl_39_97 : lk ctab (mC 39) 97 = some (3, 13) := by decide +kernel
theorem cl_41_83 : lk ctab (mC 41) 83 = some (1, 12) := by decide +kernel
theorem cl_41_88 : lk ctab (mC 41) 88 = some (1, 13) := by decide +kernel
theorem cl_41_170 : lk ctab (mC 41) 170 = some (0, 42) := by decide +kernel
theorem cl_42_97 : lk ctab (mC 42) 97 = some (0, 14) := by decide +kernel
theorem cl_42_174 : lk ctab (mC 42) 174 = some (0, 28) := by decide +kernel
theorem cl_42_181 : lk ctab (mC 42) 181 = some (0, 43) := by decide +kernel
theorem cl_42_184 : lk ctab (mC 42) 184 = some (0, 45) := by decide +kernel
theorem cl_42_187 : lk ctab (mC 42) 187 = some (0, 47) := by decide +kernel
theorem cl_43_140 : lk ctab (mC 43) 140 = some (0, 44) := by decide +kernel
theorem cl_45_49 : lk ctab (mC 45) 49 = some (0, 46) := by decide +kernel
theorem cl_47_147 : lk ctab (mC 47) 147 = some (0, 48) := by decide +kernel
theorem cl_49_97 : lk ctab (mC 49) 97 = some (0, 14) := by decide +kernel
theorem cl_49_190 : lk ctab (mC 49) 190 = some (0, 50) := by decide +kernel
theorem cl_49_193 : lk ctab (mC 49) 193 = some (0, 51) := by decide +kernel
theorem cl_50_88 : lk ctab (mC 50) 88 = some (1, 13) := by decide +kernel
theorem cl_51_140 : lk ctab (mC 51) 140 = some (0, 44) := by decide +kernel
theorem cl_51_157 : lk ctab (mC 51) 157 = some (0, 52) := by decide +kernel
theorem cl_53_170 : lk ctab (mC 53) 170 = some (0, 42) := by decide +kernel
theorem cl_53_190 : lk ctab (mC 53) 190 = some (0, 50) := by decide +kernel
theorem cl_53_216 : lk ctab (mC 53) 216 = some (0, 36) := by decide +kernel
theorem cl_54_190 : lk ctab (mC 54) 190 = some (0, 50) := by decide +kernel
theorem cl_54_243 : lk ctab (mC 54) 243 = some (0, 27) := by decide +kernel
theorem cl_54_250 : lk ctab (mC 54) 250 = some (1, 37) := by decide +kernel
theorem cl_55_190 : lk ctab (mC 55) 190 = some (0, 50) := by decide +kernel
theorem cl_55_255 : lk ctab (mC 55) 255 = some (1, 56) := by decide +kernel
theorem cl_57_83 : lk ctab (mC 57) 83 = some (1, 12) := by decide +kernel
theorem cl_57_88 : lk ctab (mC 57) 88 = some (1, 13) := by decide +kernel
theorem cl_57_250 : lk ctab (mC 57) 250 = some (1, 37) := by decide +kernel
theorem cl_57_255 : lk ctab (mC 57) 255 = some (1, 56) := by decide +kernel
theorem cl_57_258 : lk ctab (mC 57) 258 = some (0, 58) := by decide +kernel
theorem cl_57_261 : lk ctab (mC 57) 261 = some (0, 66) := by decide +kernel
theorem cl_58_49 : lk ctab (mC 58) 49 = some (0, 46) := by decide +kernel
theorem cl_58_53 : lk ctab (mC 58) 53 = some (1, 59) := by decide +kernel
theorem cl_58_56 : lk ctab (mC 58) 56 = some (1, 60) := by decide +kernel
theorem cl_58_62 : lk ctab (mC 58) 62 = some (0, 61) := by decide +kernel
theorem cl_58_66 : lk ctab (mC 58) 66 = some (0, 62) := by decide +kernel
theorem cl_58_70 : lk ctab (mC 58) 70 = some (0, 64) := by decide +kernel
theorem cl_62_49 : lk ctab (mC 62) 49 = some (0, 46) := by decide +kernel
theorem cl_62_56 : lk ctab (mC 62) 56 = some (1, 60) := by decide +kernel
theorem cl_62_62 : lk ctab (mC 62) 62 = some (0, 61) := by decide +kernel
theorem cl_62_73 : lk ctab (mC 62) 73 = some (0, 63) := by decide +kernel
theorem cl_63_49 : lk ctab (mC 63) 49 = some (0, 46) := by decide +kernel
theorem cl_63_56 : lk ctab (mC 63) 56 = some (1, 60) := by decide +kernel
theorem cl_63_62 : lk ctab (mC 63) 62 = some (0, 61) := by decide +kernel
theorem cl_64_76 : lk ctab (mC 64) 76 = some (1, 65) := by decide +kernel
theorem cl_65_11 : lk ctab (mC 65) 11 = some (1, 56) := by decide +kernel
theorem cl_66_53 : lk ctab (mC 66) 53 = some (1, 59) := by decide +kernel
theorem cl_66_80 : lk ctab (mC 66) 80 = some (1, 67) := by decide +kernel
theorem cl_68_88 : lk ctab (mC 68) 88 = some (1, 13) := by decide +kernel
theorem cl_68_97 : lk ctab (mC 68) 97 = some (0, 14) := by decide +kernel
theorem cl_68_264 : lk ctab (mC 68) 264 = some (0, 69) := by decide +kernel
theorem cl_68_267 : lk ctab (mC 68) 267 = some (0, 70) := by decide +kernel
theorem cl_69_167 : lk ctab (mC 69) 167 = some (0, 58) := by decide +kernel
theorem cl_70_88 : lk ctab (mC 70) 88 = some (0, 28) := by decide +kernel
theorem cl_70_189 : lk ctab (mC 70) 189 = some (0, 71) := by decide +kernel
theorem cl_70_194 : lk ctab (mC 70) 194 = some (0, 72) := by decide +kernel
theorem cl_70_197 : lk ctab (mC 70) 197 = some (0, 74) := by decide +kernel
theorem cl_70_200 : lk ctab (mC 70) 200 = some (0, 78) := by decide +kernel
theorem cl_70_203 : lk ctab (mC 70) 203 = some (0, 84) := by decide +kernel
theorem cl_70_206 : lk ctab (mC 70) 206 = some (0, 89) := by decide +kernel
theorem cl_71_28 : lk ctab (mC 71) 28 = some (3, 13) := by decide +kernel
theorem cl_72_157 : lk ctab (mC 72) 157 = some (0, 52) := by decide +kernel
theorem cl_72_209 : lk ctab (mC 72) 209 = some (0, 73) := by decide +kernel
theorem cl_74_140 : lk ctab (mC 74) 140 = some (0, 44) := by decide +kernel
theorem cl_74_219 : lk ctab (mC 74) 219 = some (0, 75) := by decide +kernel
theorem cl_74_226 : lk ctab (mC 74) 226 = some (0, 76) := by decide +kernel
theorem cl_75_53 : lk ctab (mC 75) 53 = some (1, 59) := by decide +kernel
theorem cl_75_80 : lk ctab (mC 75) 80 = some (1, 67) := by decide +kernel
theorem cl_75_83 : lk ctab (mC 75) 83 = some (1, 56) := by decide +kernel
theorem cl_76_106 : lk ctab (mC 76) 106 = some (1, 77) := by decide +kernel
theorem cl_77_122 : lk ctab (mC 77) 122 = some (1, 37) := by decide +kernel
theorem cl_78_157 : lk ctab (mC 78) 157 = some (0, 52) := by decide +kernel
theorem cl_78_236 : lk ctab (mC 78) 236 = some (0, 79) := by decide +kernel
theorem cl_78_239 : lk ctab (mC 78) 239 = some (0, 82) := by decide +kernel
theorem cl_79_243 : lk ctab (mC 79) 243 = some (0, 80) := by decide +kernel
theorem cl_79_246 : lk ctab (mC 79) 246 = some (0, 81) := by decide +kernel
theorem cl_80_87 : lk ctab (mC 80) 87 = some (1, 56) := by decide +kernel
theorem cl_82_254 : lk ctab (mC 82) 254 = some (0, 83) := by decide +kernel
theorem cl_84_258 : lk ctab (mC 84) 258 = some (6, 0) := by decide +kernel
theorem cl_84_264 : lk ctab (mC 84) 264 = some (0, 85) := by decide +kernel
theorem cl_84_267 : lk ctab (mC 84) 267 = some (0, 88) := by decide +kernel
theorem cl_85_157 : lk ctab (mC 85) 157 = some (0, 52) := by decide +kernel
theorem cl_85_243 : lk ctab (mC 85) 243 = some (0, 80) := by decide +kernel
theorem cl_85_273 : lk ctab (mC 85) 273 = some (0, 86) := by decide +kernel
theorem cl_86_279 : lk ctab (mC 86) 279 = some (1, 87) := by decide +kernel
theorem cl_86_282 : lk ctab (mC 86) 282 = some (1, 56) := by decide +kernel
theorem cl_88_219 : lk ctab (mC 88) 219 = some (0, 75) := by decide +kernel
theorem cl_88_273 : lk ctab (mC 88) 273 = some (0, 86) := by decide +kernel
theorem cl_89_140 : lk ctab (mC 89) 140 = some (0, 44) := by decide +kernel
theorem cl_89_285 : lk ctab (mC 89) 285 = some (1, 65) := by decide +kernel
theorem cl_90_166 : lk ctab (mC 90) 166 = some (0, 40) := by decide +kernel
theorem cl_90_270 : lk ctab (mC 90) 270 = some (0, 91) := by decide +kernel
theorem cl_90_273 : lk ctab (mC 90) 273 = some (0, 94) := by decide +kernel
theorem cl_91_125 : lk ctab (mC 91) 125 = some (0, 92) := by decide +kernel
theorem cl_92_77 : lk ctab (mC 92) 77 = some (0, 93) := by decide +kernel
theorem cl_92_81 : lk ctab (mC 92) 81 = some (9, 0) := by decide +kernel
theorem cl_94_125 : lk ctab (mC 94) 125 = some (0, 92) := by decide +kernel
theorem cl_94_128 : lk ctab (mC 94) 128 = some (10, 0) := by decide +kernel
theorem cl_95_88 : lk ctab (mC 95) 88 = some (1, 13) := by decide +kernel
theorem cl_95_276 : lk ctab (mC 95) 276 = some (0, 96) := by decide +kernel
theorem cl_97_88 : lk ctab (mC 97) 88 = some (1, 13) := by decide +kernel
theorem cl_97_97 : lk ctab (mC 97) 97 = some (0, 14) := by decide +kernel
theorem cl_97_280 : lk ctab (mC 97) 280 = some (0, 98) := by decide +kernel
theorem cl_98_28 : lk ctab (mC 98) 28 = some (0, 99) := by decide +kernel
theorem cl_98_32 : lk ctab (mC 98) 32 = some (0, 101) := by decide +kernel
theorem cl_99_44 : lk ctab (mC 99) 44 = some (0, 100) := by decide +kernel
theorem cl_101_44 : lk ctab (mC 101) 44 = some (0, 100) := by decide +kernel
theorem cl_101_49 : lk ctab (mC 101) 49 = some (0, 102) := by decide +kernel
theorem cl_101_53 : lk ctab (mC 101) 53 = some (0, 104) := by decide +kernel
theorem cl_101_60 : lk ctab (mC 101) 60 = some (0, 105) := by decide +kernel
theorem cl_101_63 : lk ctab (mC 101) 63 = some (0, 107) := by decide +kernel
theorem cl_101_67 : lk ctab (mC 101) 67 = some (0, 110) := by decide +kernel
theorem cl_102_44 : lk ctab (mC 102) 44 = some (0, 100) := by decide +kernel
theorem cl_102_53 : lk ctab (mC 102) 53 = some (0, 104) := by decide +kernel
theorem cl_102_98 : lk ctab (mC 102) 98 = some (3, 13) := by decide +kernel
theorem cl_102_102 : lk ctab (mC 102) 102 = some (7, 0) := by decide +kernel
theorem cl_102_107 : lk ctab (mC 102) 107 = some (0, 103) := by decide +kernel
theorem cl_103_102 : lk ctab (mC 103) 102 = some (7, 0) := by decide +kernel
theorem cl_103_111 : lk ctab (mC 103) 111 = some (8, 0) := by decide +kernel
theorem cl_105_44 : lk ctab (mC 105) 44 = some (0, 100) := by decide +kernel
theorem cl_105_49 : lk ctab (mC 105) 49 = some (0, 102) := by decide +kernel
theorem cl_105_53 : lk ctab (mC 105) 53 = some (0, 104) := by decide +kernel
theorem cl_105_73 : lk ctab (mC 105) 73 = some (0, 106) := by decide +kernel
theorem cl_106_44 : lk ctab (mC 106) 44 = some (0, 100) := by decide +kernel
theorem cl_107_49 : lk ctab (mC 107) 49 = some (0, 102) := by decide +kernel
theorem cl_107_83 : lk ctab (mC 107) 83 = some (0, 108) := by decide +kernel
theorem cl_107_94 : lk ctab (mC 107) 94 = some (0, 109) := by decide +kernel
theorem cl_108_44 : lk ctab (mC 108) 44 = some (0, 100) := by decide +kernel
theorem cl_108_53 : lk ctab (mC 108) 53 = some (0, 104) := by decide +kernel
theorem cl_108_98 : lk ctab (mC 108) 98 = some (3, 13) := by decide +kernel
theorem cl_109_44 : lk ctab (mC 109) 44 = some (0, 100) := by decide +kernel
theorem cl_109_53 : lk ctab (mC 109) 53 = some (0, 104) := by decide +kernel
theorem cl_109_83 : lk ctab (mC 109) 83 = some (0, 108) := by decide +kernel
theorem cl_110_53 : lk ctab (mC 110) 53 = some (0, 104) := by decide +kernel
theorem cl_110_73 : lk ctab (mC 110) 73 = some (0, 106) := by decide +kernel
theorem cl_112_88 : lk ctab (mC 112) 88 = some (1, 13) := by decide +kernel
theorem cl_112_174 : lk ctab (mC 112) 174 = some (0, 28) := by decide +kernel
theorem cl_112_293 : lk ctab (mC 112) 293 = some (0, 113) := by decide +kernel
theorem cl_112_296 : lk ctab (mC 112) 296 = some (0, 38) := by decide +kernel
theorem cl_112_314 : lk ctab (mC 112) 314 = some (0, 39) := by decide +kernel
theorem cl_114_83 : lk ctab (mC 114) 83 = some (1, 12) := by decide +kernel
theorem cl_114_88 : lk ctab (mC 114) 88 = some (1, 13) := by decide +kernel
theorem cl_114_317 : lk ctab (mC 114) 317 = some (0, 115) := by decide +kernel
theorem cl_115_24 : lk ctab (mC 115) 24 = some (0, 116) := by decide +kernel
theorem cl_115_28 : lk ctab (mC 115) 28 = some (0, 117) := by decide +kernel
theorem cl_116_32 : lk ctab (mC 116) 32 = some (11, 0) := by decide +kernel
theorem cl_117_24 : lk ctab (mC 117) 24 = some (0, 116) := by decide +kernel
theorem cl_118_83 : lk ctab (mC 118) 83 = some (1, 12) := by decide +kernel
theorem cl_118_88 : lk ctab (mC 118) 88 = some (1, 13) := by decide +kernel
theorem cl_118_320 : lk ctab (mC 118) 320 = some (0, 119) := by decide +kernel
theorem cl_118_327 : lk ctab (mC 118) 327 = some (0, 120) := by decide +kernel
theorem cl_119_38 : lk ctab (mC 119) 38 = some (0, 120) := by decide +kernel
theorem cl_121_88 : lk ctab (mC 121) 88 = some (1, 13) := by decide +kernel
theorem cl_122_88 : lk ctab (mC 122) 88 = some (1, 13) := by decide +kernel
theorem cl_122_333 : lk ctab (mC 122) 333 = some (0, 123) := by decide +kernel
theorem cl_122_336 : lk ctab (mC 122) 336 = some (0, 125) := by decide +kernel
theorem cl_123_18 : lk ctab (mC 123) 18 = some (0, 124) := by decide +kernel
theorem cl_123_22 : lk ctab (mC 123) 22 = some (11, 0) := by decide +kernel
theorem cl_124_28 : lk ctab (mC 124) 28 = some (10, 0) := by decide +kernel
theorem cl_126_88 : lk ctab (mC 126) 88 = some (1, 13) := by decide +kernel
theorem cl_126_104 : lk ctab (mC 126) 104 = some (0, 16) := by decide +kernel
theorem cl_126_160 : lk ctab (mC 126) 160 = some (0, 25) := by decide +kernel
theorem cl_126_163 : lk ctab (mC 126) 163 = some (0, 26) := by decide +kernel
theorem cl_126_166 : lk ctab (mC 126) 166 = some (0, 40) := by decide +kernel
theorem cl_126_342 : lk ctab (mC 126) 342 = some (0, 127) := by decide +kernel
theorem cl_127_172 : lk ctab (mC 127) 172 = some (0, 128) := by decide +kernel
theorem cl_127_176 : lk ctab (mC 127) 176 = some (0, 70) := by decide +kernel
theorem cl_128_147 : lk ctab (mC 128) 147 = some (0, 48) := by decide +kernel
theorem cl_128_167 : lk ctab (mC 128) 167 = some (0, 58) := by decide +kernel
theorem cl_128_182 : lk ctab (mC 128) 182 = some (0, 129) := by decide +kernel
theorem cl_128_185 : lk ctab (mC 128) 185 = some (0, 51) := by decide +kernel
theorem cl_130_83 : lk ctab (mC 130) 83 = some (1, 12) := by decide +kernel
theorem cl_130_88 : lk ctab (mC 130) 88 = some (1, 13) := by decide +kernel
theorem cl_130_97 : lk ctab (mC 130) 97 = some (0, 14) := by decide +kernel
theorem cl_130_100 : lk ctab (mC 130) 100 = some (0, 15) := by decide +kernel
theorem cl_131_88 : lk ctab (mC 131) 88 = some (1, 13) := by decide +kernel
theorem cl_131_350 : lk ctab (mC 131) 350 = some (0, 132) := by decide +kernel
theorem cl_131_353 : lk ctab (mC 131) 353 = some (0, 133) := by decide +kernel
theorem cl_132_104 : lk ctab (mC 132) 104 = some (0, 16) := by decide +kernel
theorem cl_132_160 : lk ctab (mC 132) 160 = some (0, 25) := by decide +kernel
theorem cl_132_342 : lk ctab (mC 132) 342 = some (0, 127) := by decide +kernel
theorem cl_135_192 : lk ctab (mC 135) 192 = some (1, 136) := by decide +kernel
theorem cl_135_197 : lk ctab (mC 135) 197 = some (1, 138) := by decide +kernel
theorem cl_136_183 : lk ctab (mC 136) 183 = some (1, 137) := by decide +kernel
theorem cl_138_183 : lk ctab (mC 138) 183 = some (1, 137) := by decide +kernel
theorem cl_139_183 : lk ctab (mC 139) 183 = some (1, 137) := by decide +kernel
theorem cl_139_208 : lk ctab (mC 139) 208 = some (0, 140) := by decide +kernel
theorem cl_139_213 : lk ctab (mC 139) 213 = some (1, 141) := by decide +kernel
theorem cl_140_183 : lk ctab (mC 140) 183 = some (1, 137) := by decide +kernel
theorem cl_141_183 : lk ctab (mC 141) 183 = some (1, 137) := by decide +kernel
theorem cl_142_183 : lk ctab (mC 142) 183 = some (1, 137) := by decide +kernel
theorem cl_142_192 : lk ctab (mC 142) 192 = some (1, 136) := by decide +kernel
theorem cl_143_183 : lk ctab (mC 143) 183 = some (1, 137) := by decide +kernel
theorem cl_143_192 : lk ctab (mC 143) 192 = some (1, 136) := by decide +kernel
theorem cl_143_221 : lk ctab (mC 143) 221 = some (0, 150) := by decide +kernel
theorem cl_143_256 : lk ctab (mC 143) 256 = some (0, 144) := by decide +kernel
theorem cl_143_259 : lk ctab (mC 143) 259 = some (0, 152) := by decide +kernel
theorem cl_143_262 : lk ctab (mC 143) 262 = some (0, 153) := by decide +kernel
theorem cl_143_266 : lk ctab (mC 143) 266 = some (0, 154) := by decide +kernel
theorem cl_144_243 : lk ctab (mC 144) 243 = some (0, 151) := by decide +kernel
theorem cl_144_247 : lk ctab (mC 144) 247 = some (0, 145) := by decide +kernel
theorem cl_144_251 : lk ctab (mC 144) 251 = some (0, 148) := by decide +kernel
theorem cl_145_231 : lk ctab (mC 145) 231 = some (0, 146) := by decide +kernel
theorem cl_145_235 : lk ctab (mC 145) 235 = some (0, 147) := by decide +kernel
theorem cl_148_239 : lk ctab (mC 148) 239 = some (0, 149) := by decide +kernel
theorem cl_148_243 : lk ctab (mC 148) 243 = some (0, 151) := by decide +kernel
theorem cl_149_221 : lk ctab (mC 149) 221 = some (0, 150) := by decide +kernel
theorem cl_153_221 : lk ctab (mC 153) 221 = some (0, 150) := by decide +kernel
theorem cl_154_221 : lk ctab (mC 154) 221 = some (0, 150) := by decide +kernel
theorem cl_155_183 : lk ctab (mC 155) 183 = some (1, 137) := by decide +kernel
theorem cl_156_213 : lk ctab (mC 156) 213 = some (1, 141) := by decide +kernel
theorem cl_156_282 : lk ctab (mC 156) 282 = some (0, 157) := by decide +kernel
theorem cl_156_300 : lk ctab (mC 156) 300 = some (0, 161) := by decide +kernel
theorem cl_156_308 : lk ctab (mC 156) 308 = some (0, 158) := by decide +kernel
theorem cl_156_334 : lk ctab (mC 156) 334 = some (0, 159) := by decide +kernel
theorem cl_156_337 : lk ctab (mC 156) 337 = some (0, 162) := by decide +kernel
theorem cl_158_183 : lk ctab (mC 158) 183 = some (1, 137) := by decide +kernel
theorem cl_158_282 : lk ctab (mC 158) 282 = some (0, 157) := by decide +kernel
theorem cl_159_304 : lk ctab (mC 159) 304 = some (0, 160) := by decide +kernel
theorem cl_162_282 : lk ctab (mC 162) 282 = some (0, 157) := by decide +kernel
theorem cl_162_300 : lk ctab (mC 162) 300 = some (0, 161) := by decide +kernel
theorem cl_162_304 : lk ctab (mC 162) 304 = some (0, 160) := by decide +kernel
theorem cl_162_308 : lk ctab (mC 162) 308 = some (0, 158) := by decide +kernel
theorem cl_162_318 : lk ctab (mC 162) 318 = some (0, 166) := by decide +kernel
theorem cl_162_321 : lk ctab (mC 162) 321 = some (0, 167) := by decide +kernel
theorem cl_162_325 : lk ctab (mC 162) 325 = some (0, 163) := by decide +kernel
theorem cl_162_328 : lk ctab (mC 162) 328 = some (0, 168) := by decide +kernel
theorem cl_163_282 : lk ctab (mC 163) 282 = some (0, 157) := by decide +kernel
theorem cl_163_300 : lk ctab (mC 163) 300 = some (0, 161) := by decide +kernel
theorem cl_163_308 : lk ctab (mC 163) 308 = some (0, 158) := by decide +kernel
theorem cl_163_311 : lk ctab (mC 163) 311 = some (0, 164) := by decide +kernel
theorem cl_163_314 : lk ctab (mC 163) 314 = some (1, 165) := by decide +kernel
theorem cl_164_304 : lk ctab (mC 164) 304 = some (0, 160) := by decide +kernel
theorem cl_166_183 : lk ctab (mC 166) 183 = some (1, 137) := by decide +kernel
theorem cl_166_282 : lk ctab (mC 166) 282 = some (0, 157) := by decide +kernel
theorem cl_166_300 : lk ctab (mC 166) 300 = some (0, 161) := by decide +kernel
theorem cl_167_300 : lk ctab (mC 167) 300 = some (0, 161) := by decide +kernel
theorem cl_168_304 : lk ctab (mC 168) 304 = some (0, 160) := by decide +kernel
theorem cl_168_308 : lk ctab (mC 168) 308 = some (0, 158) := by decide +kernel
theorem cl_168_318 : lk ctab (mC 168) 318 = some (0, 166) := by decide +kernel
theorem cl_168_321 : lk ctab (mC 168) 321 = some (0, 167) := by decide +kernel
theorem cl_170_183 : lk ctab (mC 170) 183 = some (1, 137) := by decide +kernel
theorem cl_170_213 : lk ctab (mC 170) 213 = some (1, 141) := by decide +kernel
theorem cl_170_355 : lk ctab (mC 170) 355 = some (0, 171) := by decide +kernel
theorem cl_170_366 : lk ctab (mC 170) 366 = some (0, 173) := by decide +kernel
theorem cl_170_369 : lk ctab (mC 170) 369 = some (0, 174) := by decide +kernel
theorem cl_171_346 : lk ctab (mC 171) 346 = some (0, 172) := by decide +kernel
theorem cl_174_183 : lk ctab (mC 174) 183 = some (1, 137) := by decide +kernel
theorem cl_175_183 : lk ctab (mC 175) 183 = some (1, 137) := by decide +kernel
theorem cl_175_192 : lk ctab (mC 175) 192 = some (1, 136) := by decide +kernel
theorem cl_175_390 : lk ctab (mC 175) 390 = some (0, 176) := by decide +kernel
theorem cl_176_381 : lk ctab (mC 176) 381 = some (0, 177) := by decide +kernel
theorem cl_176_384 : lk ctab (mC 176) 384 = some (0, 179) := by decide +kernel
theorem cl_177_314 : lk ctab (mC 177) 314 = some (1, 165) := by decide +kernel
theorem cl_177_355 : lk ctab (mC 177) 355 = some (0, 171) := by decide +kernel
theorem cl_177_375 : lk ctab (mC 177) 375 = some (0, 178) := by decide +kernel
theorem cl_180_375 : lk ctab (mC 180) 375 = some (0, 178) := by decide +kernel
theorem cl_180_394 : lk ctab (mC 180) 394 = some (0, 181) := by decide +kernel
theorem cl_180_397 : lk ctab (mC 180) 397 = some (0, 182) := by decide +kernel
theorem cl_181_183 : lk ctab (mC 181) 183 = some (1, 137) := by decide +kernel
theorem cl_183_390 : lk ctab (mC 183) 390 = some (0, 176) := by decide +kernel
theorem cl_183_394 : lk ctab (mC 183) 394 = some (0, 181) := by decide +kernel
theorem cl_184_183 : lk ctab (mC 184) 183 = some (1, 137) := by decide +kernel
theorem cl_184_469 : lk ctab (mC 184) 469 = some (0, 185) := by decide +kernel
theorem cl_185_256 : lk ctab (mC 185) 256 = some (0, 144) := by decide +kernel
theorem cl_185_355 : lk ctab (mC 185) 355 = some (0, 171) := by decide +kernel
theorem cl_185_449 : lk ctab (mC 185) 449 = some (0, 186) := by decide +kernel
theorem cl_185_452 : lk ctab (mC 185) 452 = some (0, 187) := by decide +kernel
theorem cl_185_455 : lk ctab (mC 185) 455 = some (0, 188) := by decide +kernel
theorem cl_185_458 : lk ctab (mC 185) 458 = some (0, 191) := by decide +kernel
theorem cl_185_461 : lk ctab (mC 185) 461 = some (0, 196) := by decide +kernel
theorem cl_185_464 : lk ctab (mC 185) 464 = some (0, 205) := by decide +kernel
theorem cl_186_259 : lk ctab (mC 186) 259 = some (0, 152) := by decide +kernel
theorem cl_186_262 : lk ctab (mC 186) 262 = some (0, 153) := by decide +kernel
theorem cl_187_397 : lk ctab (mC 187) 397 = some (0, 182) := by decide +kernel
theorem cl_188_397 : lk ctab (mC 188) 397 = some (0, 182) := by decide +kernel
theorem cl_188_400 : lk ctab (mC 188) 400 = some (0, 189) := by decide +kernel
theorem cl_188_403 : lk ctab (mC 188) 403 = some (0, 190) := by decide +kernel
theorem cl_189_183 : lk ctab (mC 189) 183 = some (1, 137) := by decide +kernel
theorem cl_190_397 : lk ctab (mC 190) 397 = some (0, 182) := by decide +kernel
theorem cl_191_403 : lk ctab (mC 191) 403 = some (0, 190) := by decide +kernel
theorem cl_191_412 : lk ctab (mC 191) 412 = some (0, 192) := by decide +kernel
theorem cl_191_415 : lk ctab (mC 191) 415 = some (0, 194) := by decide +kernel
theorem cl_192_409 : lk ctab (mC 192) 409 = some (0, 193) := by decide +kernel
theorem cl_194_406 : lk ctab (mC 194) 406 = some (0, 195) := by decide +kernel
theorem cl_195_314 : lk ctab (mC 195) 314 = some (1, 165) := by decide +kernel
theorem cl_196_314 : lk ctab (mC 196) 314 = some (1, 165) := by decide +kernel
theorem cl_196_443 : lk ctab (mC 196) 443 = some (0, 197) := by decide +kernel
theorem cl_196_446 : lk ctab (mC 196) 446 = some (0, 199) := by decide +kernel
theorem cl_197_415 : lk ctab (mC 197) 415 = some (0, 194) := by decide +kernel
theorem cl_197_440 : lk ctab (mC 197) 440 = some (0, 198) := by decide +kernel
theorem cl_198_375 : lk ctab (mC 198) 375 = some (0, 178) := by decide +kernel
theorem cl_199_403 : lk ctab (mC 199) 403 = some (0, 190) := by decide +kernel
theorem cl_199_421 : lk ctab (mC 199) 421 = some (0, 201) := by decide +kernel
theorem cl_199_424 : lk ctab (mC 199) 424 = some (0, 200) := by decide +kernel
theorem cl_199_428 : lk ctab (mC 199) 428 = some (0, 202) := by decide +kernel
theorem cl_199_431 : lk ctab (mC 199) 431 = some (0, 203) := by decide +kernel
theorem cl_199_434 : lk ctab (mC 199) 434 = some (0, 204) := by decide +kernel
theorem cl_200_221 : lk ctab (mC 200) 221 = some (0, 150) := by decide +kernel
theorem cl_200_259 : lk ctab (mC 200) 259 = some (0, 152) := by decide +kernel
theorem cl_200_262 : lk ctab (mC 200) 262 = some (0, 153) := by decide +kernel
theorem cl_200_266 : lk ctab (mC 200) 266 = some (0, 154) := by decide +kernel
theorem cl_200_400 : lk ctab (mC 200) 400 = some (0, 189) := by decide +kernel
theorem cl_200_421 : lk ctab (mC 200) 421 = some (0, 201) := by decide +kernel
theorem cl_201_400 : lk ctab (mC 201) 400 = some (0, 189) := by decide +kernel
theorem cl_202_221 : lk ctab (mC 202) 221 = some (0, 150) := by decide +kernel
theorem cl_202_266 : lk ctab (mC 202) 266 = some (0, 154) := by decide +kernel
theorem cl_203_421 : lk ctab (mC 203) 421 = some (0, 201) := by decide +kernel
theorem cl_205_221 : lk ctab (mC 205) 221 = some (0, 150) := by decide +kernel
theorem cl_205_259 : lk ctab (mC 205) 259 = some (0, 152) := by decide +kernel
theorem cl_205_262 : lk ctab (mC 205) 262 = some (0, 153) := by decide +kernel
theorem cl_205_266 : lk ctab (mC 205) 266 = some (0, 154) := by decide +kernel
theorem cl_205_314 : lk ctab (mC 205) 314 = some (1, 165) := by decide +kernel
theorem cl_205_421 : lk ctab (mC 205) 421 = some (0, 201) := by decide +kernel
theorem cl_205_440 : lk ctab (mC 205) 440 = some (0, 198) := by decide +kernel
theorem cl_206_394 : lk ctab (mC 206) 394 = some (0, 181) := by decide +kernel
theorem cl_206_472 : lk ctab (mC 206) 472 = some (0, 208) := by decide +kernel
theorem cl_206_475 : lk ctab (mC 206) 475 = some (0, 207) := by decide +kernel
theorem cl_207_355 : lk ctab (mC 207) 355 = some (0, 171) := by decide +kernel
theorem cl_207_366 : lk ctab (mC 207) 366 = some (0, 173) := by decide +kernel
theorem cl_207_369 : lk ctab (mC 207) 369 = some (0, 174) := by decide +kernel
theorem cl_207_472 : lk ctab (mC 207) 472 = some (0, 208) := by decide +kernel
theorem cl_209_183 : lk ctab (mC 209) 183 = some (1, 137) := by decide +kernel
theorem cl_209_394 : lk ctab (mC 209) 394 = some (0, 181) := by decide +kernel
theorem cl_210_208 : lk ctab (mC 210) 208 = some (0, 140) := by decide +kernel
theorem cl_210_400 : lk ctab (mC 210) 400 = some (0, 189) := by decide +kernel
theorem cl_211_478 : lk ctab (mC 211) 478 = some (0, 212) := by decide +kernel
theorem cl_211_487 : lk ctab (mC 211) 487 = some (0, 213) := by decide +kernel
theorem cl_211_490 : lk ctab (mC 211) 490 = some (0, 214) := by decide +kernel
theorem cl_212_314 : lk ctab (mC 212) 314 = some (1, 165) := by decide +kernel
theorem cl_214_475 : lk ctab (mC 214) 475 = some (0, 207) := by decide +kernel
theorem cl_215_183 : lk ctab (mC 215) 183 = some (1, 137) := by decide +kernel
theorem cl_216_183 : lk ctab (mC 216) 183 = some (1, 137) := by decide +kernel
theorem cl_216_192 : lk ctab (mC 216) 192 = some (1, 136) := by decide +kernel
theorem cl_216_495 : lk ctab (mC 216) 495 = some (1, 217) := by decide +kernel
theorem cl_218_183 : lk ctab (mC 218) 183 = some (1, 137) := by decide +kernel
theorem cl_218_192 : lk ctab (mC 218) 192 = some (1, 136) := by decide +kernel
theorem cl_218_314 : lk ctab (mC 218) 314 = some (1, 165) := by decide +kernel
theorem cl_218_495 : lk ctab (mC 218) 495 = some (1, 217) := by decide +kernel
theorem cl_218_502 : lk ctab (mC 218) 502 = some (0, 219) := by decide +kernel
theorem cl_219_495 : lk ctab (mC 219) 495 = some (1, 217) := by decide +kernel
theorem cl_220_183 : lk ctab (mC 220) 183 = some (1, 137) := by decide +kernel
theorem cl_221_183 : lk ctab (mC 221) 183 = some (1, 137) := by decide +kernel
theorem cl_221_507 : lk ctab (mC 221) 507 = some (0, 223) := by decide +kernel
theorem cl_221_513 : lk ctab (mC 221) 513 = some (0, 222) := by decide +kernel
theorem cl_222_507 : lk ctab (mC 222) 507 = some (0, 223) := by decide +kernel
theorem cl_223_314 : lk ctab (mC 223) 314 = some (1, 165) := by decide +kernel
theorem cl_224_183 : lk ctab (mC 224) 183 = some (1, 137) := by decide +kernel
theorem cl_224_192 : lk ctab (mC 224) 192 = some (1, 136) := by decide +kernel
theorem cl_224_197 : lk ctab (mC 224) 197 = some (1, 138) := by decide +kernel
theorem cl_225_183 : lk ctab (mC 225) 183 = some (1, 137) := by decide +kernel
theorem cl_225_543 : lk ctab (mC 225) 543 = some (0, 226) := by decide +kernel
theorem cl_226_375 : lk ctab (mC 226) 375 = some (0, 178) := by decide +kernel
theorem cl_226_384 : lk ctab (mC 226) 384 = some (0, 179) := by decide +kernel
theorem cl_226_397 : lk ctab (mC 226) 397 = some (0, 182) := by decide +kernel
theorem cl_226_469 : lk ctab (mC 226) 469 = some (0, 185) := by decide +kernel
theorem cl_226_478 : lk ctab (mC 226) 478 = some (0, 212) := by decide +kernel
theorem cl_226_487 : lk ctab (mC 226) 487 = some (0, 213) := by decide +kernel
theorem cl_226_490 : lk ctab (mC 226) 490 = some (0, 214) := by decide +kernel
theorem cl_226_519 : lk ctab (mC 226) 519 = some (0, 227) := by decide +kernel
theorem cl_226_523 : lk ctab (mC 226) 523 = some (0, 229) := by decide +kernel
theorem cl_227_516 : lk ctab (mC 227) 516 = some (0, 228) := by decide +kernel
theorem cl_230_183 : lk ctab (mC 230) 183 = some (1, 137) := by decide +kernel
theorem cl_230_543 : lk ctab (mC 230) 543 = some (0, 226) := by decide +kernel
theorem cf_11_12 : callF 11 12 := by unfold callF; decide +kernel
theorem cf_11_13 : callF 11 13 := by unfold callF; decide +kernel
theorem cf_11_14 : callF 11 14 := by unfold callF; decide +kernel
theorem cf_11_15 : callF 11 15 := by unfold callF; decide +kernel
theorem cf_11_16 : callF 11 16 := by unfold callF; decide +kernel
theorem cf_12_13 : callF 12 13 := by unfold callF; decide +kernel
theorem cf_15_2 : callF 15 2 := by unfold callF; decide +kernel
theorem cf_17_13 : callF 17 13 := by unfold callF; decide +kernel
theorem cf_17_14 : callF 17 14 := by unfold callF; decide +kernel
theorem cf_17_18 : callF 17 18 := by unfold callF; decide +kernel
theorem cf_17_19 : callF 17 19 := by unfold callF; decide +kernel
theorem cf_18_13 : callF 18 13 := by unfold callF; decide +kernel
theorem cf_20_12 : callF 20 12 := by unfold callF; decide +kernel
theorem cf_20_13 : callF 20 13 := by unfold callF; decide +kernel
theorem cf_20_14 : callF 20 14 := by unfold callF; decide +kernel
theorem cf_21_18 : callF 21 18 := by unfold callF; decide +kernel
theorem cf_21_22 : callF 21 22 := by unfold callF; decide +kernel
theorem cf_21_23 : callF 21 23 := by unfold callF; decide +kernel
theorem cf_22_13 : callF 22 13 := by unfold callF; decide +kernel
theorem cf_24_13 : callF 24 13 := by unfold callF; decide +kernel
theorem cf_24_25 : callF 24 25 := by unfold callF; decide +kernel
theorem cf_24_26 : callF 24 26 := by unfold callF; decide +kernel
theorem cf_24_40 : callF 24 40 := by unfold callF; decide +kernel
theorem cf_26_27 : callF 26 27 := by unfold callF; decide +kernel
theorem cf_27_28 : callF 27 28 := by unfold callF; decide +kernel
theorem cf_27_36 : callF 27 36 := by unfold callF; decide +kernel
theorem cf_27_37 : callF 27 37 := by unfold callF; decide +kernel
theorem cf_27_38 : callF 27 38 := by unfold callF; decide +kernel
theorem cf_27_39 : callF 27 39 := by unfold callF; decide +kernel
theorem cf_28_29 : callF 28 29 := by unfold callF; decide +kernel
theorem cf_28_30 : callF 28 30 := by unfold callF; decide +kernel
theorem cf_28_32 : callF 28 32 := by unfold callF; decide +kernel
theorem cf_28_33 : callF 28 33 := by unfold callF; decide +kernel
theorem cf_28_34 : callF 28 34 := by unfold callF; decide +kernel
theorem cf_30_31 : callF 30 31 := by unfold callF; decide +kernel
theorem cf_34_35 : callF 34 35 := by unfold callF; decide +kernel
theorem cf_39_13 : callF 39 13 := by unfold callF; decide +kernel
theorem cf_41_12 : callF 41 12 := by unfold callF; decide +kernel
theorem cf_41_13 : callF 41 13 := by unfold callF; decide +kernel
theorem cf_41_42 : callF 41 42 := by unfold callF; decide +kernel
theorem cf_42_14 : callF 42 14 := by unfold callF; decide +kernel
theorem cf_42_28 : callF 42 28 := by unfold callF; decide +kernel
theorem cf_42_43 : callF 42 43 := by unfold callF; decide +kernel
theorem cf_42_45 : callF 42 45 := by unfold callF; decide +kernel
theorem cf_42_47 : callF 42 47 := by unfold callF; decide +kernel
theorem cf_43_44 : callF 43 44 := by unfold callF; decide +kernel
theorem cf_45_46 : callF 45 46 := by unfold callF; decide +kernel
theorem cf_47_48 : callF 47 48 := by unfold callF; decide +kernel
theorem cf_49_14 : callF 49 14 := by unfold callF; decide +kernel
theorem cf_49_50 : callF 49 50 := by unfold callF; decide +kernel
theorem cf_49_51 : callF 49 51 := by unfold callF; decide +kernel
theorem cf_50_13 : callF 50 13 := by unfold callF; decide +kernel
theorem cf_51_44 : callF 51 44 := by unfold callF; decide +kernel
theorem cf_51_52 : callF 51 52 := by unfold callF; decide +kernel
theorem cf_53_36 : callF 53 36 := by unfold callF; decide +kernel
theorem cf_53_42 : callF 53 42 := by unfold callF; decide +kernel
theorem cf_53_50 : callF 53 50 := by unfold callF; decide +kernel
theorem cf_54_27 : callF 54 27 := by unfold callF; decide +kernel
theorem cf_54_37 : callF 54 37 := by unfold callF; decide +kernel
theorem cf_54_50 : callF 54 50 := by unfold callF; decide +kernel
theorem cf_55_50 : callF 55 50 := by unfold callF; decide +kernel
theorem cf_55_56 : callF 55 56 := by unfold callF; decide +kernel
theorem cf_57_12 : callF 57 12 := by unfold callF; decide +kernel
theorem cf_57_13 : callF 57 13 := by unfold callF; decide +kernel
theorem cf_57_37 : callF 57 37 := by unfold callF; decide +kernel
theorem cf_57_56 : callF 57 56 := by unfold callF; decide +kernel
theorem cf_57_58 : callF 57 58 := by unfold callF; decide +kernel
theorem cf_57_66 : callF 57 66 := by unfold callF; decide +kernel
theorem cf_58_46 : callF 58 46 := by unfold callF; decide +kernel
theorem cf_58_59 : callF 58 59 := by unfold callF; decide +kernel
theorem cf_58_60 : callF 58 60 := by unfold callF; decide +kernel
theorem cf_58_61 : callF 58 61 := by unfold callF; decide +kernel
theorem cf_58_62 : callF 58 62 := by unfold callF; decide +kernel
theorem cf_58_64 : callF 58 64 := by unfold callF; decide +kernel
theorem cf_62_46 : callF 62 46 := by unfold callF; decide +kernel
theorem cf_62_60 : callF 62 60 := by unfold callF; decide +kernel
theorem cf_62_61 : callF 62 61 := by unfold callF; decide +kernel
theorem cf_62_63 : callF 62 63 := by unfold callF; decide +kernel
theorem cf_63_46 : callF 63 46 := by unfold callF; decide +kernel
theorem cf_63_60 : callF 63 60 := by unfold callF; decide +kernel
theorem cf_63_61 : callF 63 61 := by unfold callF; decide +kernel
theorem cf_64_65 : callF 64 65 := by unfold callF; decide +kernel
theorem cf_65_56 : callF 65 56 := by unfold callF; decide +kernel
theorem cf_66_59 : callF 66 59 := by unfold callF; decide +kernel
theorem cf_66_67 : callF 66 67 := by unfold callF; decide +kernel
theorem cf_68_13 : callF 68 13 := by unfold callF; decide +kernel
theorem cf_68_14 : callF 68 14 := by unfold callF; decide +kernel
theorem cf_68_69 : callF 68 69 := by unfold callF; decide +kernel
theorem cf_68_70 : callF 68 70 := by unfold callF; decide +kernel
theorem cf_69_58 : callF 69 58 := by unfold callF; decide +kernel
theorem cf_70_28 : callF 70 28 := by unfold callF; decide +kernel
theorem cf_70_71 : callF 70 71 := by unfold callF; decide +kernel
theorem cf_70_72 : callF 70 72 := by unfold callF; decide +kernel
theorem cf_70_74 : callF 70 74 := by unfold callF; decide +kernel
theorem cf_70_78 : callF 70 78 := by unfold callF; decide +kernel
theorem cf_70_84 : callF 70 84 := by unfold callF; decide +kernel
theorem cf_70_89 : callF 70 89 := by unfold callF; decide +kernel
theorem cf_71_13 : callF 71 13 := by unfold callF; decide +kernel
theorem cf_72_52 : callF 72 52 := by unfold callF; decide +kernel
theorem cf_72_73 : callF 72 73 := by unfold callF; decide +kernel
theorem cf_74_44 : callF 74 44 := by unfold callF; decide +kernel
theorem cf_74_75 : callF 74 75 := by unfold callF; decide +kernel
theorem cf_74_76 : callF 74 76 := by unfold callF; decide +kernel
theorem cf_75_56 : callF 75 56 := by unfold callF; decide +kernel
theorem cf_75_59 : callF 75 59 := by unfold callF; decide +kernel
theorem cf_75_67 : callF 75 67 := by unfold callF; decide +kernel
theorem cf_76_77 : callF 76 77 := by unfold callF; decide +kernel
theorem cf_77_37 : callF 77 37 := by unfold callF; decide +kernel
theorem cf_78_52 : callF 78 52 := by unfold callF; decide +kernel
theorem cf_78_79 : callF 78 79 := by unfold callF; decide +kernel
theorem cf_78_82 : callF 78 82 := by unfold callF; decide +kernel
theorem cf_79_80 : callF 79 80 := by unfold callF; decide +kernel
theorem cf_79_81 : callF 79 81 := by unfold callF; decide +kernel
theorem cf_80_56 : callF 80 56 := by unfold callF; decide +kernel
theorem cf_82_83 : callF 82 83 := by unfold callF; decide +kernel
theorem cf_84_85 : callF 84 85 := by unfold callF; decide +kernel
theorem cf_84_88 : callF 84 88 := by unfold callF; decide +kernel
theorem cf_85_52 : callF 85 52 := by unfold callF; decide +kernel
theorem cf_85_80 : callF 85 80 := by unfold callF; decide +kernel
theorem cf_85_86 : callF 85 86 := by unfold callF; decide +kernel
theorem cf_86_56 : callF 86 56 := by unfold callF; decide +kernel
theorem cf_86_87 : callF 86 87 := by unfold callF; decide +kernel
theorem cf_88_75 : callF 88 75 := by unfold callF; decide +kernel
theorem cf_88_86 : callF 88 86 := by unfold callF; decide +kernel
theorem cf_89_44 : callF 89 44 := by unfold callF; decide +kernel
theorem cf_89_65 : callF 89 65 := by unfold callF; decide +kernel
theorem cf_90_40 : callF 90 40 := by unfold callF; decide +kernel
theorem cf_90_91 : callF 90 91 := by unfold callF; decide +kernel
theorem cf_90_94 : callF 90 94 := by unfold callF; decide +kernel
theorem cf_91_92 : callF 91 92 := by unfold callF; decide +kernel
theorem cf_92_93 : callF 92 93 := by unfold callF; decide +kernel
theorem cf_94_92 : callF 94 92 := by unfold callF; decide +kernel
theorem cf_95_13 : callF 95 13 := by unfold callF; decide +kernel
theorem cf_95_96 : callF 95 96 := by unfold callF; decide +kernel
theorem cf_97_13 : callF 97 13 := by unfold callF; decide +kernel
theorem cf_97_14 : callF 97 14 := by unfold callF; decide +kernel
theorem cf_97_98 : callF 97 98 := by unfold callF; decide +kernel
theorem cf_98_99 : callF 98 99 := by unfold callF; decide +kernel
theorem cf_98_101 : callF 98 101 := by unfold callF; decide +kernel
theorem cf_99_100 : callF 99 100 := by unfold callF; decide +kernel
theorem cf_101_100 : callF 101 100 := by unfold callF; decide +kernel
theorem cf_101_102 : callF 101 102 := by unfold callF; decide +kernel
theorem cf_101_104 : callF 101 104 := by unfold callF; decide +kernel
theorem cf_101_105 : callF 101 105 := by unfold callF; decide +kernel
theorem cf_101_107 : callF 101 107 := by unfold callF; decide +kernel
theorem cf_101_110 : callF 101 110 := by unfold callF; decide +kernel
theorem cf_102_13 : callF 102 13 := by unfold callF; decide +kernel
theorem cf_102_100 : callF 102 100 := by unfold callF; decide +kernel
theorem cf_102_103 : callF 102 103 := by unfold callF; decide +kernel
theorem cf_102_104 : callF 102 104 := by unfold callF; decide +kernel
theorem cf_105_100 : callF 105 100 := by unfold callF; decide +kernel
theorem cf_105_102 : callF 105 102 := by unfold callF; decide +kernel
theorem cf_105_104 : callF 105 104 := by unfold callF; decide +kernel
theorem cf_105_106 : callF 105 106 := by unfold callF; decide +kernel
theorem cf_106_100 : callF 106 100 := by unfold callF; decide +kernel
theorem cf_107_102 : callF 107 102 := by unfold callF; decide +kernel
theorem cf_107_108 : callF 107 108 := by unfold callF; decide +kernel
theorem cf_107_109 : callF 107 109 := by unfold callF; decide +kernel
theorem cf_108_13 : callF 108 13 := by unfold callF; decide +kernel
theorem cf_108_100 : callF 108 100 := by unfold callF; decide +kernel
theorem cf_108_104 : callF 108 104 := by unfold callF; decide +kernel
theorem cf_109_100 : callF 109 100 := by unfold callF; decide +kernel
theorem cf_109_104 : callF 109 104 := by unfold callF; decide +kernel
theorem cf_109_108 : callF 109 108 := by unfold callF; decide +kernel
theorem cf_110_104 : callF 110 104 := by unfold callF; decide +kernel
theorem cf_110_106 : callF 110 106 := by unfold callF; decide +kernel
theorem cf_112_13 : callF 112 13 := by unfold callF; decide +kernel
theorem cf_112_28 : callF 112 28 := by unfold callF; decide +kernel
theorem cf_112_38 : callF 112 38 := by unfold callF; decide +kernel
theorem cf_112_39 : callF 112 39 := by unfold callF; decide +kernel
theorem cf_112_113 : callF 112 113 := by unfold callF; decide +kernel
theorem cf_114_12 : callF 114 12 := by unfold callF; decide +kernel
theorem cf_114_13 : callF 114 13 := by unfold callF; decide +kernel
theorem cf_114_115 : callF 114 115 := by unfold callF; decide +kernel
theorem cf_115_116 : callF 115 116 := by unfold callF; decide +kernel
theorem cf_115_117 : callF 115 117 := by unfold callF; decide +kernel
theorem cf_117_116 : callF 117 116 := by unfold callF; decide +kernel
theorem cf_118_12 : callF 118 12 := by unfold callF; decide +kernel
theorem cf_118_13 : callF 118 13 := by unfold callF; decide +kernel
theorem cf_118_119 : callF 118 119 := by unfold callF; decide +kernel
theorem cf_118_120 : callF 118 120 := by unfold callF; decide +kernel
theorem cf_119_120 : callF 119 120 := by unfold callF; decide +kernel
theorem cf_121_13 : callF 121 13 := by unfold callF; decide +kernel
theorem cf_122_13 : callF 122 13 := by unfold callF; decide +kernel
theorem cf_122_123 : callF 122 123 := by unfold callF; decide +kernel
theorem cf_122_125 : callF 122 125 := by unfold callF; decide +kernel
theorem cf_123_124 : callF 123 124 := by unfold callF; decide +kernel
theorem cf_126_13 : callF 126 13 := by unfold callF; decide +kernel
theorem cf_126_16 : callF 126 16 := by unfold callF; decide +kernel
theorem cf_126_25 : callF 126 25 := by unfold callF; decide +kernel
theorem cf_126_26 : callF 126 26 := by unfold callF; decide +kernel
theorem cf_126_40 : callF 126 40 := by unfold callF; decide +kernel
theorem cf_126_127 : callF 126 127 := by unfold callF; decide +kernel
theorem cf_127_70 : callF 127 70 := by unfold callF; decide +kernel
theorem cf_127_128 : callF 127 128 := by unfold callF; decide +kernel
theorem cf_128_48 : callF 128 48 := by unfold callF; decide +kernel
theorem cf_128_51 : callF 128 51 := by unfold callF; decide +kernel
theorem cf_128_58 : callF 128 58 := by unfold callF; decide +kernel
theorem cf_128_129 : callF 128 129 := by unfold callF; decide +kernel
theorem cf_130_12 : callF 130 12 := by unfold callF; decide +kernel
theorem cf_130_13 : callF 130 13 := by unfold callF; decide +kernel
theorem cf_130_14 : callF 130 14 := by unfold callF; decide +kernel
theorem cf_130_15 : callF 130 15 := by unfold callF; decide +kernel
theorem cf_131_13 : callF 131 13 := by unfold callF; decide +kernel
theorem cf_131_132 : callF 131 132 := by unfold callF; decide +kernel
theorem cf_131_133 : callF 131 133 := by unfold callF; decide +kernel
theorem cf_132_16 : callF 132 16 := by unfold callF; decide +kernel
theorem cf_132_25 : callF 132 25 := by unfold callF; decide +kernel
theorem cf_132_127 : callF 132 127 := by unfold callF; decide +kernel
theorem cf_135_136 : callF 135 136 := by unfold callF; decide +kernel
theorem cf_135_138 : callF 135 138 := by unfold callF; decide +kernel
theorem cf_136_137 : callF 136 137 := by unfold callF; decide +kernel
theorem cf_138_137 : callF 138 137 := by unfold callF; decide +kernel
theorem cf_139_137 : callF 139 137 := by unfold callF; decide +kernel
theorem cf_139_140 : callF 139 140 := by unfold callF; decide +kernel
theorem cf_139_141 : callF 139 141 := by unfold callF; decide +kernel
theorem cf_140_137 : callF 140 137 := by unfold callF; decide +kernel
theorem cf_141_137 : callF 141 137 := by unfold callF; decide +kernel
theorem cf_142_136 : callF 142 136 := by unfold callF; decide +kernel
theorem cf_142_137 : callF 142 137 := by unfold callF; decide +kernel
theorem cf_143_136 : callF 143 136 := by unfold callF; decide +kernel
theorem cf_143_137 : callF 143 137 := by unfold callF; decide +kernel
theorem cf_143_144 : callF 143 144 := by unfold callF; decide +kernel
theorem cf_143_150 : callF 143 150 := by unfold callF; decide +kernel
theorem cf_143_152 : callF 143 152 := by unfold callF; decide +kernel
theorem cf_143_153 : callF 143 153 := by unfold callF; decide +kernel
theorem cf_143_154 : callF 143 154 := by unfold callF; decide +kernel
theorem cf_144_145 : callF 144 145 := by unfold callF; decide +kernel
theorem cf_144_148 : callF 144 148 := by unfold callF; decide +kernel
theorem cf_144_151 : callF 144 151 := by unfold callF; decide +kernel
theorem cf_145_146 : callF 145 146 := by unfold callF; decide +kernel
theorem cf_145_147 : callF 145 147 := by unfold callF; decide +kernel
theorem cf_148_149 : callF 148 149 := by unfold callF; decide +kernel
theorem cf_148_151 : callF 148 151 := by unfold callF; decide +kernel
theorem cf_149_150 : callF 149 150 := by unfold callF; decide +kernel
theorem cf_153_150 : callF 153 150 := by unfold callF; decide +kernel
theorem cf_154_150 : callF 154 150 := by unfold callF; decide +kernel
theorem cf_155_137 : callF 155 137 := by unfold callF; decide +kernel
theorem cf_156_141 : callF 156 141 := by unfold callF; decide +kernel
theorem cf_156_157 : callF 156 157 := by unfold callF; decide +kernel
theorem cf_156_158 : callF 156 158 := by unfold callF; decide +kernel
theorem cf_156_159 : callF 156 159 := by unfold callF; decide +kernel
theorem cf_156_161 : callF 156 161 := by unfold callF; decide +kernel
theorem cf_156_162 : callF 156 162 := by unfold callF; decide +kernel
theorem cf_158_137 : callF 158 137 := by unfold callF; decide +kernel
theorem cf_158_157 : callF 158 157 := by unfold callF; decide +kernel
theorem cf_159_160 : callF 159 160 := by unfold callF; decide +kernel
theorem cf_162_157 : callF 162 157 := by unfold callF; decide +kernel
theorem cf_162_158 : callF 162 158 := by unfold callF; decide +kernel
theorem cf_162_160 : callF 162 160 := by unfold callF; decide +kernel
theorem cf_162_161 : callF 162 161 := by unfold callF; decide +kernel
theorem cf_162_163 : callF 162 163 := by unfold callF; decide +kernel
theorem cf_162_166 : callF 162 166 := by unfold callF; decide +kernel
theorem cf_162_167 : callF 162 167 := by unfold callF; decide +kernel
theorem cf_162_168 : callF 162 168 := by unfold callF; decide +kernel
theorem cf_163_157 : callF 163 157 := by unfold callF; decide +kernel
theorem cf_163_158 : callF 163 158 := by unfold callF; decide +kernel
theorem cf_163_161 : callF 163 161 := by unfold callF; decide +kernel
theorem cf_163_164 : callF 163 164 := by unfold callF; decide +kernel
theorem cf_163_165 : callF 163 165 := by unfold callF; decide +kernel
theorem cf_164_160 : callF 164 160 := by unfold callF; decide +kernel
theorem cf_166_137 : callF 166 137 := by unfold callF; decide +kernel
theorem cf_166_157 : callF 166 157 := by unfold callF; decide +kernel
theorem cf_166_161 : callF 166 161 := by unfold callF; decide +kernel
theorem cf_167_161 : callF 167 161 := by unfold callF; decide +kernel
theorem cf_168_158 : callF 168 158 := by unfold callF; decide +kernel
theorem cf_168_160 : callF 168 160 := by unfold callF; decide +kernel
theorem cf_168_166 : callF 168 166 := by unfold callF; decide +kernel
theorem cf_168_167 : callF 168 167 := by unfold callF; decide +kernel
theorem cf_170_137 : callF 170 137 := by unfold callF; decide +kernel
theorem cf_170_141 : callF 170 141 := by unfold callF; decide +kernel
theorem cf_170_171 : callF 170 171 := by unfold callF; decide +kernel
theorem cf_170_173 : callF 170 173 := by unfold callF; decide +kernel
theorem cf_170_174 : callF 170 174 := by unfold callF; decide +kernel
theorem cf_171_172 : callF 171 172 := by unfold callF; decide +kernel
theorem cf_174_137 : callF 174 137 := by unfold callF; decide +kernel
theorem cf_175_136 : callF 175 136 := by unfold callF; decide +kernel
theorem cf_175_137 : callF 175 137 := by unfold callF; decide +kernel
theorem cf_175_176 : callF 175 176 := by unfold callF; decide +kernel
theorem cf_176_177 : callF 176 177 := by unfold callF; decide +kernel
theorem cf_176_179 : callF 176 179 := by unfold callF; decide +kernel
theorem cf_177_165 : callF 177 165 := by unfold callF; decide +kernel
theorem cf_177_171 : callF 177 171 := by unfold callF; decide +kernel
theorem cf_177_178 : callF 177 178 := by unfold callF; decide +kernel
theorem cf_180_178 : callF 180 178 := by unfold callF; decide +kernel
theorem cf_180_181 : callF 180 181 := by unfold callF; decide +kernel
theorem cf_180_182 : callF 180 182 := by unfold callF; decide +kernel
theorem cf_181_137 : callF 181 137 := by unfold callF; decide +kernel
theorem cf_183_176 : callF 183 176 := by unfold callF; decide +kernel
theorem cf_183_181 : callF 183 181 := by unfold callF; decide +kernel
theorem cf_184_137 : callF 184 137 := by unfold callF; decide +kernel
theorem cf_184_185 : callF 184 185 := by unfold callF; decide +kernel
theorem cf_185_144 : callF 185 144 := by unfold callF; decide +kernel
theorem cf_185_171 : callF 185 171 := by unfold callF; decide +kernel
theorem cf_185_186 : callF 185 186 := by unfold callF; decide +kernel
theorem cf_185_187 : callF 185 187 := by unfold callF; decide +kernel
theorem cf_185_188 : callF 185 188 := by unfold callF; decide +kernel
theorem cf_185_191 : callF 185 191 := by unfold callF; decide +kernel
theorem cf_185_196 : callF 185 196 := by unfold callF; decide +kernel
theorem cf_185_205 : callF 185 205 := by unfold callF; decide +kernel
theorem cf_186_152 : callF 186 152 := by unfold callF; decide +kernel
theorem cf_186_153 : callF 186 153 := by unfold callF; decide +kernel
theorem cf_187_182 : callF 187 182 := by unfold callF; decide +kernel
theorem cf_188_182 : callF 188 182 := by unfold callF; decide +kernel
theorem cf_188_189 : callF 188 189 := by unfold callF; decide +kernel
theorem cf_188_190 : callF 188 190 := by unfold callF; decide +kernel
theorem cf_189_137 : callF 189 137 := by unfold callF; decide +kernel
theorem cf_190_182 : callF 190 182 := by unfold callF; decide +kernel
theorem cf_191_190 : callF 191 190 := by unfold callF; decide +kernel
theorem cf_191_192 : callF 191 192 := by unfold callF; decide +kernel
theorem cf_191_194 : callF 191 194 := by unfold callF; decide +kernel
theorem cf_192_193 : callF 192 193 := by unfold callF; decide +kernel
theorem cf_194_195 : callF 194 195 := by unfold callF; decide +kernel
theorem cf_195_165 : callF 195 165 := by unfold callF; decide +kernel
theorem cf_196_165 : callF 196 165 := by unfold callF; decide +kernel
theorem cf_196_197 : callF 196 197 := by unfold callF; decide +kernel
theorem cf_196_199 : callF 196 199 := by unfold callF; decide +kernel
theorem cf_197_194 : callF 197 194 := by unfold callF; decide +kernel
theorem cf_197_198 : callF 197 198 := by unfold callF; decide +kernel
theorem cf_198_178 : callF 198 178 := by unfold callF; decide +kernel
theorem cf_199_190 : callF 199 190 := by unfold callF; decide +kernel
theorem cf_199_200 : callF 199 200 := by unfold callF; decide +kernel
theorem cf_199_201 : callF 199 201 := by unfold callF; decide +kernel
theorem cf_199_202 : callF 199 202 := by unfold callF; decide +kernel
theorem cf_199_203 : callF 199 203 := by unfold callF; decide +kernel
theorem cf_199_204 : callF 199 204 := by unfold callF; decide +kernel
theorem cf_200_150 : callF 200 150 := by unfold callF; decide +kernel
theorem cf_200_152 : callF 200 152 := by unfold callF; decide +kernel
theorem cf_200_153 : callF 200 153 := by unfold callF; decide +kernel
theorem cf_200_154 : callF 200 154 := by unfold callF; decide +kernel
theorem cf_200_189 : callF 200 189 := by unfold callF; decide +kernel
theorem cf_200_201 : callF 200 201 := by unfold callF; decide +kernel
theorem cf_201_189 : callF 201 189 := by unfold callF; decide +kernel
theorem cf_202_150 : callF 202 150 := by unfold callF; decide +kernel
theorem cf_202_154 : callF 202 154 := by unfold callF; decide +kernel
theorem cf_203_201 : callF 203 201 := by unfold callF; decide +kernel
theorem cf_205_150 : callF 205 150 := by unfold callF; decide +kernel
theorem cf_205_152 : callF 205 152 := by unfold callF; decide +kernel
theorem cf_205_153 : callF 205 153 := by unfold callF; decide +kernel
theorem cf_205_154 : callF 205 154 := by unfold callF; decide +kernel
theorem cf_205_165 : callF 205 165 := by unfold callF; decide +kernel
theorem cf_205_198 : callF 205 198 := by unfold callF; decide +kernel
theorem cf_205_201 : callF 205 201 := by unfold callF; decide +kernel
theorem cf_206_181 : callF 206 181 := by unfold callF; decide +kernel
theorem cf_206_207 : callF 206 207 := by unfold callF; decide +kernel
theorem cf_206_208 : callF 206 208 := by unfold callF; decide +kernel
theorem cf_207_171 : callF 207 171 := by unfold callF; decide +kernel
theorem cf_207_173 : callF 207 173 := by unfold callF; decide +kernel
theorem cf_207_174 : callF 207 174 := by unfold callF; decide +kernel
theorem cf_207_208 : callF 207 208 := by unfold callF; decide +kernel
theorem cf_209_137 : callF 209 137 := by unfold callF; decide +kernel
theorem cf_209_181 : callF 209 181 := by unfold callF; decide +kernel
theorem cf_210_140 : callF 210 140 := by unfold callF; decide +kernel
theorem cf_210_189 : callF 210 189 := by unfold callF; decide +kernel
theorem cf_211_212 : callF 211 212 := by unfold callF; decide +kernel
theorem cf_211_213 : callF 211 213 := by unfold callF; decide +kernel
theorem cf_211_214 : callF 211 214 := by unfold callF; decide +kernel
theorem cf_212_165 : callF 212 165 := by unfold callF; decide +kernel
theorem cf_214_207 : callF 214 207 := by unfold callF; decide +kernel
theorem cf_215_137 : callF 215 137 := by unfold callF; decide +kernel
theorem cf_216_136 : callF 216 136 := by unfold callF; decide +kernel
theorem cf_216_137 : callF 216 137 := by unfold callF; decide +kernel
theorem cf_216_217 : callF 216 217 := by unfold callF; decide +kernel
theorem cf_218_136 : callF 218 136 := by unfold callF; decide +kernel
theorem cf_218_137 : callF 218 137 := by unfold callF; decide +kernel
theorem cf_218_165 : callF 218 165 := by unfold callF; decide +kernel
theorem cf_218_217 : callF 218 217 := by unfold callF; decide +kernel
theorem cf_218_219 : callF 218 219 := by unfold callF; decide +kernel
theorem cf_219_217 : callF 219 217 := by unfold callF; decide +kernel
theorem cf_220_137 : callF 220 137 := by unfold callF; decide +kernel
theorem cf_221_137 : callF 221 137 := by unfold callF; decide +kernel
theorem cf_221_222 : callF 221 222 := by unfold callF; decide +kernel
theorem cf_221_223 : callF 221 223 := by unfold callF; decide +kernel
theorem cf_222_223 : callF 222 223 := by unfold callF; decide +kernel
theorem cf_223_165 : callF 223 165 := by unfold callF; decide +kernel
theorem cf_224_136 : callF 224 136 := by unfold callF; decide +kernel
theorem cf_224_137 : callF 224 137 := by unfold callF; decide +kernel
theorem cf_224_138 : callF 224 138 := by unfold callF; decide +kernel
theorem cf_225_137 : callF 225 137 := by unfold callF; decide +kernel
theorem cf_225_226 : callF 225 226 := by unfold callF; decide +kernel
theorem cf_226_178 : callF 226 178 := by unfold callF; decide +kernel
theorem cf_226_179 : callF 226 179 := by unfold callF; decide +kernel
theorem cf_226_182 : callF 226 182 := by unfold callF; decide +kernel
theorem cf_226_185 : callF 226 185 := by unfold callF; decide +kernel
theorem cf_226_212 : callF 226 212 := by unfold callF; decide +kernel
theorem cf_226_213 : callF 226 213 := by unfold callF; decide +kernel
theorem cf_226_214 : callF 226 214 := by unfold callF; decide +kernel
theorem cf_226_227 : callF 226 227 := by unfold callF; decide +kernel
theorem cf_226_229 : callF 226 229 := by unfold callF; decide +kernel
theorem cf_227_228 : callF 227 228 := by unfold callF; decide +kernel
theorem cf_230_137 : callF 230 137 := by unfold callF; decide +kernel
theorem cf_230_226 : callF 230 226 := by unfold callF; decide +kernel
theorem kl_11_87 : lk ktab (mC 11) 87 = some (-100001) := by decide +kernel
theorem kl_11_92 : lk ktab (mC 11) 92 = some (-100002) := by decide +kernel
theorem kl_11_96 : lk ktab (mC 11) 96 = some (-100004) := by decide +kernel
theorem kl_17_87 : lk ktab (mC 17) 87 = some (-100001) := by decide +kernel
theorem kl_17_92 : lk ktab (mC 17) 92 = some (-100002) := by decide +kernel
theorem kl_17_96 : lk ktab (mC 17) 96 = some (-100004) := by decide +kernel
theorem kl_20_87 : lk ktab (mC 20) 87 = some (-100001) := by decide +kernel
theorem kl_20_92 : lk ktab (mC 20) 92 = some (-100002) := by decide +kernel
theorem kl_21_87 : lk ktab (mC 21) 87 = some (-100001) := by decide +kernel
theorem kl_21_92 : lk ktab (mC 21) 92 = some (-100002) := by decide +kernel
theorem kl_24_92 : lk ktab (mC 24) 92 = some (-100002) := by decide +kernel
theorem kl_41_87 : lk ktab (mC 41) 87 = some (-100001) := by decide +kernel
theorem kl_41_92 : lk ktab (mC 41) 92 = some (-100002) := by decide +kernel
theorem kl_41_96 : lk ktab (mC 41) 96 = some (-100004) := by decide +kernel
theorem kl_41_169 : lk ktab (mC 41) 169 = some (-100003) := by decide +kernel
theorem kl_49_87 : lk ktab (mC 49) 87 = some (-100001) := by decide +kernel
theorem kl_49_169 : lk ktab (mC 49) 169 = some (-100003) := by decide +kernel
theorem kl_53_87 : lk ktab (mC 53) 87 = some (-100001) := by decide +kernel
theorem kl_53_96 : lk ktab (mC 53) 96 = some (-100004) := by decide +kernel
theorem kl_53_169 : lk ktab (mC 53) 169 = some (-100003) := by decide +kernel
theorem kl_54_87 : lk ktab (mC 54) 87 = some (-100001) := by decide +kernel
theorem kl_54_92 : lk ktab (mC 54) 92 = some (-100002) := by decide +kernel
theorem kl_55_87 : lk ktab (mC 55) 87 = some (-100001) := by decide +kernel
theorem kl_57_87 : lk ktab (mC 57) 87 = some (-100001) := by decide +kernel
theorem kl_57_92 : lk ktab (mC 57) 92 = some (-100002) := by decide +kernel
theorem kl_68_92 : lk ktab (mC 68) 92 = some (-100002) := by decide +kernel
theorem kl_68_169 : lk ktab (mC 68) 169 = some (-100003) := by decide +kernel
theorem kl_74_230 : lk ltab (mC 74) 230 = some (40) := by decide +kernel
theorem kl_76_104 : lk ltab (mC 76) 104 = some (1024) := by decide +kernel
theorem kl_90_92 : lk ktab (mC 90) 92 = some (-100002) := by decide +kernel
theorem kl_95_92 : lk ktab (mC 95) 92 = some (-100002) := by decide +kernel
theorem kl_95_96 : lk ktab (mC 95) 96 = some (-100004) := by decide +kernel
theorem kl_97_92 : lk ktab (mC 97) 92 = some (-100002) := by decide +kernel
theorem kl_97_96 : lk ktab (mC 97) 96 = some (-100004) := by decide +kernel
theorem kl_112_92 : lk ktab (mC 112) 92 = some (-100002) := by decide +kernel
theorem kl_114_87 : lk ktab (mC 114) 87 = some (-100001) := by decide +kernel
theorem kl_114_92 : lk ktab (mC 114) 92 = some (-100002) := by decide +kernel
theorem kl_114_96 : lk ktab (mC 114) 96 = some (-100004) := by decide +kernel
theorem kl_117_23 : lk ktab (mC 117) 23 = some (1000000000) := by decide +kernel
theorem kl_118_87 : lk ktab (mC 118) 87 = some (-100001) := by decide +kernel
theorem kl_118_92 : lk ktab (mC 118) 92 = some (-100002) := by decide +kernel
theorem kl_118_169 : lk ktab (mC 118) 169 = some (-100003) := by decide +kernel
theorem kl_119_23 : lk ktab (mC 119) 23 = some (1000000000) := by decide +kernel
theorem kl_121_92 : lk ktab (mC 121) 92 = some (-100002) := by decide +kernel
theorem kl_122_92 : lk ktab (mC 122) 92 = some (-100002) := by decide +kernel
theorem kl_126_87 : lk ktab (mC 126) 87 = some (-100001) := by decide +kernel
theorem kl_126_92 : lk ktab (mC 126) 92 = some (-100002) := by decide +kernel
theorem kl_130_87 : lk ktab (mC 130) 87 = some (-100001) := by decide +kernel
theorem kl_130_92 : lk ktab (mC 130) 92 = some (-100002) := by decide +kernel
theorem kl_130_96 : lk ktab (mC 130) 96 = some (-100004) := by decide +kernel
theorem kl_131_92 : lk ktab (mC 131) 92 = some (-100002) := by decide +kernel
theorem kl_131_349 : lk ktab (mC 131) 349 = some (99999) := by decide +kernel
theorem kl_135_196 : lk ktab (mC 135) 196 = some (-100001) := by decide +kernel
theorem kl_135_200 : lk ktab (mC 135) 200 = some (-100002) := by decide +kernel
theorem kl_135_201 : lk ktab (mC 135) 201 = some (-100004) := by decide +kernel
theorem kl_136_181 : lk ltab (mC 136) 181 = some (7) := by decide +kernel
theorem kl_138_190 : lk ltab (mC 138) 190 = some (300) := by decide +kernel
theorem kl_139_196 : lk ktab (mC 139) 196 = some (-100001) := by decide +kernel
theorem kl_139_200 : lk ktab (mC 139) 200 = some (-100002) := by decide +kernel
theorem kl_139_201 : lk ktab (mC 139) 201 = some (-100004) := by decide +kernel
theorem kl_139_206 : lk ltab (mC 139) 206 = some (479) := by decide +kernel
theorem kl_139_211 : lk ltab (mC 139) 211 = some (2) := by decide +kernel
theorem kl_141_206 : lk ltab (mC 141) 206 = some (479) := by decide +kernel
theorem kl_142_196 : lk ktab (mC 142) 196 = some (-100001) := by decide +kernel
theorem kl_142_200 : lk ktab (mC 142) 200 = some (-100002) := by decide +kernel
theorem kl_142_219 : lk ltab (mC 142) 219 = some (9) := by decide +kernel
theorem kl_143_196 : lk ktab (mC 143) 196 = some (-100001) := by decide +kernel
theorem kl_143_200 : lk ktab (mC 143) 200 = some (-100002) := by decide +kernel
theorem kl_143_254 : lk ltab (mC 143) 254 = some (3) := by decide +kernel
theorem kl_155_200 : lk ktab (mC 155) 200 = some (-100002) := by decide +kernel
theorem kl_155_201 : lk ktab (mC 155) 201 = some (-100004) := by decide +kernel
theorem kl_155_269 : lk ltab (mC 155) 269 = some (8) := by decide +kernel
theorem kl_155_274 : lk ltab (mC 155) 274 = some (255) := by decide +kernel
theorem kl_156_200 : lk ktab (mC 156) 200 = some (-100002) := by decide +kernel
theorem kl_156_201 : lk ktab (mC 156) 201 = some (-100004) := by decide +kernel
theorem kl_158_289 : lk ltab (mC 158) 289 = some (97) := by decide +kernel
theorem kl_158_291 : lk ltab (mC 158) 291 = some (122) := by decide +kernel
theorem kl_166_296 : lk ltab (mC 166) 296 = some (48) := by decide +kernel
theorem kl_166_298 : lk ltab (mC 166) 298 = some (57) := by decide +kernel
theorem kl_170_200 : lk ktab (mC 170) 200 = some (-100002) := by decide +kernel
theorem kl_170_358 : lk ltab (mC 170) 358 = some (6) := by decide +kernel
theorem kl_170_360 : lk ltab (mC 170) 360 = some (10) := by decide +kernel
theorem kl_170_362 : lk ltab (mC 170) 362 = some (21) := by decide +kernel
theorem kl_170_364 : lk ltab (mC 170) 364 = some (920) := by decide +kernel
theorem kl_175_196 : lk ktab (mC 175) 196 = some (-100001) := by decide +kernel
theorem kl_175_200 : lk ktab (mC 175) 200 = some (-100002) := by decide +kernel
theorem kl_175_201 : lk ktab (mC 175) 201 = some (-100004) := by decide +kernel
theorem kl_175_206 : lk ltab (mC 175) 206 = some (479) := by decide +kernel
theorem kl_175_211 : lk ltab (mC 175) 211 = some (2) := by decide +kernel
theorem kl_175_387 : lk ltab (mC 175) 387 = some (60) := by decide +kernel
theorem kl_175_389 : lk ktab (mC 175) 389 = some (-100003) := by decide +kernel
theorem kl_180_196 : lk ktab (mC 180) 196 = some (-100001) := by decide +kernel
theorem kl_180_389 : lk ktab (mC 180) 389 = some (-100003) := by decide +kernel
theorem kl_183_196 : lk ktab (mC 183) 196 = some (-100001) := by decide +kernel
theorem kl_183_201 : lk ktab (mC 183) 201 = some (-100004) := by decide +kernel
theorem kl_183_389 : lk ktab (mC 183) 389 = some (-100003) := by decide +kernel
theorem kl_184_200 : lk ktab (mC 184) 200 = some (-100002) := by decide +kernel
theorem kl_184_389 : lk ktab (mC 184) 389 = some (-100003) := by decide +kernel
theorem kl_184_467 : lk ltab (mC 184) 467 = some (200) := by decide +kernel
theorem kl_206_196 : lk ktab (mC 206) 196 = some (-100001) := by decide +kernel
theorem kl_206_200 : lk ktab (mC 206) 200 = some (-100002) := by decide +kernel
theorem kl_209_196 : lk ktab (mC 209) 196 = some (-100001) := by decide +kernel
theorem kl_210_196 : lk ktab (mC 210) 196 = some (-100001) := by decide +kernel
theorem kl_210_200 : lk ktab (mC 210) 200 = some (-100002) := by decide +kernel
theorem kl_211_200 : lk ktab (mC 211) 200 = some (-100002) := by decide +kernel
theorem kl_215_200 : lk ktab (mC 215) 200 = some (-100002) := by decide +kernel
theorem kl_215_211 : lk ltab (mC 215) 211 = some (2) := by decide +kernel
theorem kl_216_196 : lk ktab (mC 216) 196 = some (-100001) := by decide +kernel
theorem kl_216_200 : lk ktab (mC 216) 200 = some (-100002) := by decide +kernel
theorem kl_216_201 : lk ktab (mC 216) 201 = some (-100004) := by decide +kernel
theorem kl_216_493 : lk ltab (mC 216) 493 = some (9999) := by decide +kernel
theorem kl_218_180 : lk ktab (mC 218) 180 = some (1000000) := by decide +kernel
theorem kl_218_196 : lk ktab (mC 218) 196 = some (-100001) := by decide +kernel
theorem kl_218_200 : lk ktab (mC 218) 200 = some (-100002) := by decide +kernel
theorem kl_218_211 : lk ltab (mC 218) 211 = some (2) := by decide +kernel
theorem kl_218_389 : lk ktab (mC 218) 389 = some (-100003) := by decide +kernel
theorem kl_219_180 : lk ktab (mC 219) 180 = some (1000000) := by decide +kernel
theorem kl_219_498 : lk ktab (mC 219) 498 = some (-400000) := by decide +kernel
theorem kl_220_200 : lk ktab (mC 220) 200 = some (-100002) := by decide +kernel
theorem kl_220_219 : lk ltab (mC 220) 219 = some (9) := by decide +kernel
theorem kl_220_505 : lk ltab (mC 220) 505 = some (11) := by decide +kernel
theorem kl_221_200 : lk ktab (mC 221) 200 = some (-100002) := by decide +kernel
theorem kl_221_269 : lk ltab (mC 221) 269 = some (8) := by decide +kernel
theorem kl_221_511 : lk ltab (mC 221) 511 = some (-1) := by decide +kernel
theorem kl_222_180 : lk ktab (mC 222) 180 = some (1000000) := by decide +kernel
theorem kl_223_180 : lk ktab (mC 223) 180 = some (1000000) := by decide +kernel
theorem kl_224_196 : lk ktab (mC 224) 196 = some (-100001) := by decide +kernel
theorem kl_224_200 : lk ktab (mC 224) 200 = some (-100002) := by decide +kernel
theorem kl_224_201 : lk ktab (mC 224) 201 = some (-100004) := by decide +kernel
theorem kl_224_493 : lk ltab (mC 224) 493 = some (9999) := by decide +kernel
theorem kl_225_196 : lk ktab (mC 225) 196 = some (-100001) := by decide +kernel
theorem kl_225_200 : lk ktab (mC 225) 200 = some (-100002) := by decide +kernel
theorem kl_225_541 : lk ltab (mC 225) 541 = some (4) := by decide +kernel
theorem kl_230_200 : lk ktab (mC 230) 200 = some (-100002) := by decide +kernel
theorem kl_230_211 : lk ltab (mC 230) 211 = some (2) := by decide +kernel
theorem kl_230_546 : lk ltab (mC 230) 546 = some (99999) := by decide +kernel
theorem kn_101_47 : lk ktab (mC 101) 47 = none := by decide +kernel
theorem sl_101_47 : lk stab (mC 101) 47 = some 0 := by decide +kernel
theorem kn_105_71 : lk ktab (mC 105) 71 = none := by decide +kernel
theorem sl_105_71 : lk stab (mC 105) 71 = some 1 := by decide +kernel
theorem kn_107_87 : lk ktab (mC 107) 87 = none := by decide +kernel
theorem sl_107_87 : lk stab (mC 107) 87 = some 2 := by decide +kernel
theorem kn_107_89 : lk ktab (mC 107) 89 = none := by decide +kernel
theorem sl_107_89 : lk stab (mC 107) 89 = some 3 := by decide +kernel
theorem ff_0_0 : 0 < fN 0 ∧ fkd 0 0 = 0 := by decide +kernel
theorem fn_0_0 : (TT 0 0).2.2.2 = false := rfl
theorem ty_0_0 : tyF 0 0 = .int := rfl
theorem ff_0_1 : 1 < fN 0 ∧ fkd 0 1 = 0 := by decide +kernel
theorem fn_0_1 : (TT 0 1).2.2.2 = false := rfl
theorem ty_0_1 : tyF 0 1 = .int := rfl
theorem ff_0_2 : 2 < fN 0 ∧ fkd 0 2 = 0 := by decide +kernel
theorem fn_0_2 : (TT 0 2).2.2.2 = false := rfl
theorem ty_0_2 : tyF 0 2 = .int := rfl
theorem ff_0_3 : 3 < fN 0 ∧ fkd 0 3 = 0 := by decide +kernel
theorem fn_0_3 : (TT 0 3).2.2.2 = false := rfl
theorem ty_0_3 : tyF 0 3 = .int := rfl
theorem ff_0_4 : 4 < fN 0 ∧ fkd 0 4 = 0 := by decide +kernel
theorem fn_0_4 : (TT 0 4).2.2.2 = false := rfl
theorem ty_0_4 : tyF 0 4 = .int := rfl
theorem ff_0_5 : 5 < fN 0 ∧ fkd 0 5 = 0 := by decide +kernel
theorem fn_0_5 : (TT 0 5).2.2.2 = false := rfl
theorem ty_0_5 : tyF 0 5 = .int := rfl
theorem ff_0_6 : 6 < fN 0 ∧ fkd 0 6 = 0 := by decide +kernel
theorem fn_0_6 : (TT 0 6).2.2.2 = false := rfl
theorem ty_0_6 : tyF 0 6 = .int := rfl
theorem ff_0_7 : 7 < fN 0 ∧ fkd 0 7 = 0 := by decide +kernel
theorem fn_0_7 : (TT 0 7).2.2.2 = false := rfl
theorem ty_0_7 : tyF 0 7 = .int := rfl
theorem ff_0_8 : 8 < fN 0 ∧ fkd 0 8 = 1 := by decide +kernel
theorem fn_0_8 : (TT 0 8).2.2.2 = false := rfl
theorem ty_0_8 : tyF 0 8 = .boolean := rfl
theorem ff_0_9 : 9 < fN 0 ∧ fkd 0 9 = 0 := by decide +kernel
theorem fn_0_9 : (TT 0 9).2.2.2 = false := rfl
theorem ty_0_9 : tyF 0 9 = .int := rfl
theorem ff_0_10 : 10 < fN 0 ∧ fkd 0 10 = 0 := by decide +kernel
theorem fn_0_10 : (TT 0 10).2.2.2 = false := rfl
theorem ty_0_10 : tyF 0 10 = .int := rfl
theorem ff_0_11 : 11 < fN 0 ∧ fkd 0 11 = 0 := by decide +kernel
theorem fn_0_11 : (TT 0 11).2.2.2 = false := rfl
theorem ty_0_11 : tyF 0 11 = .int := rfl
theorem ff_0_12 : 12 < fN 0 ∧ fkd 0 12 = 0 := by decide +kernel
theorem fn_0_12 : (TT 0 12).2.2.2 = false := rfl
theorem ty_0_12 : tyF 0 12 = .int := rfl
theorem ff_0_13 : 13 < fN 0 ∧ fkd 0 13 = 0 := by decide +kernel
theorem fn_0_13 : (TT 0 13).2.2.2 = false := rfl
theorem ty_0_13 : tyF 0 13 = .int := rfl
theorem ff_0_14 : 14 < fN 0 ∧ fkd 0 14 = 0 := by decide +kernel
theorem fn_0_14 : (TT 0 14).2.2.2 = false := rfl
theorem ty_0_14 : tyF 0 14 = .int := rfl
theorem ff_0_15 : 15 < fN 0 ∧ fkd 0 15 = 0 := by decide +kernel
theorem fn_0_15 : (TT 0 15).2.2.2 = false := rfl
theorem ty_0_15 : tyF 0 15 = .int := rfl
theorem ff_0_16 : 16 < fN 0 ∧ fkd 0 16 = 0 := by decide +kernel
theorem fn_0_16 : (TT 0 16).2.2.2 = false := rfl
theorem ty_0_16 : tyF 0 16 = .int := rfl
theorem ff_0_17 : 17 < fN 0 ∧ fkd 0 17 = 2 := by decide +kernel
theorem fn_0_17 : (TT 0 17).2.2.2 = false := rfl
theorem ty_0_17 : tyF 0 17 = .long := rfl
theorem ff_0_18 : 18 < fN 0 ∧ fkd 0 18 = 0 := by decide +kernel
theorem fn_0_18 : (TT 0 18).2.2.2 = false := rfl
theorem ty_0_18 : tyF 0 18 = .int := rfl
theorem ff_0_19 : 19 < fN 0 ∧ fkd 0 19 = 3 := by decide +kernel
theorem fn_0_19 : (TT 0 19).2.2.2 = false := rfl
theorem ty_0_19 : tyF 0 19 = .object "TrunkRoom$Call" := rfl
theorem ff_1_0 : 0 < fN 1 ∧ fkd 1 0 = 0 := by decide +kernel
theorem fn_1_0 : (TT 1 0).2.2.2 = false := rfl
theorem ty_1_0 : tyF 1 0 = .int := rfl
theorem ff_1_1 : 1 < fN 1 ∧ fkd 1 1 = 1 := by decide +kernel
theorem fn_1_1 : (TT 1 1).2.2.2 = false := rfl
theorem ty_1_1 : tyF 1 1 = .boolean := rfl
theorem ff_1_2 : 2 < fN 1 ∧ fkd 1 2 = 4 := by decide +kernel
theorem ff_2_0 : 0 < fN 2 ∧ fkd 2 0 = 4 := by decide +kernel
theorem ff_2_1 : 1 < fN 2 ∧ fkd 2 1 = 4 := by decide +kernel
theorem ff_2_2 : 2 < fN 2 ∧ fkd 2 2 = 4 := by decide +kernel
theorem ff_2_3 : 3 < fN 2 ∧ fkd 2 3 = 4 := by decide +kernel
theorem ff_2_4 : 4 < fN 2 ∧ fkd 2 4 = 4 := by decide +kernel
theorem ff_2_5 : 5 < fN 2 ∧ fkd 2 5 = 0 := by decide +kernel
theorem fn_2_5 : (TT 2 5).2.2.2 = false := rfl
theorem ty_2_5 : tyF 2 5 = .int := rfl
theorem ff_2_6 : 6 < fN 2 ∧ fkd 2 6 = 0 := by decide +kernel
theorem fn_2_6 : (TT 2 6).2.2.2 = false := rfl
theorem ty_2_6 : tyF 2 6 = .int := rfl
theorem ff_2_7 : 7 < fN 2 ∧ fkd 2 7 = 0 := by decide +kernel
theorem fn_2_7 : (TT 2 7).2.2.2 = false := rfl
theorem ty_2_7 : tyF 2 7 = .int := rfl
theorem ff_2_8 : 8 < fN 2 ∧ fkd 2 8 = 4 := by decide +kernel
theorem ff_2_9 : 9 < fN 2 ∧ fkd 2 9 = 4 := by decide +kernel
theorem ff_2_10 : 10 < fN 2 ∧ fkd 2 10 = 0 := by decide +kernel
theorem fn_2_10 : (TT 2 10).2.2.2 = false := rfl
theorem ty_2_10 : tyF 2 10 = .int := rfl
theorem ff_2_11 : 11 < fN 2 ∧ fkd 2 11 = 0 := by decide +kernel
theorem fn_2_11 : (TT 2 11).2.2.2 = false := rfl
theorem ty_2_11 : tyF 2 11 = .int := rfl
theorem ff_2_12 : 12 < fN 2 ∧ fkd 2 12 = 0 := by decide +kernel
theorem fn_2_12 : (TT 2 12).2.2.2 = false := rfl
theorem ty_2_12 : tyF 2 12 = .int := rfl
theorem ff_2_13 : 13 < fN 2 ∧ fkd 2 13 = 0 := by decide +kernel
theorem fn_2_13 : (TT 2 13).2.2.2 = false := rfl
theorem ty_2_13 : tyF 2 13 = .int := rfl
theorem ff_2_14 : 14 < fN 2 ∧ fkd 2 14 = 1 := by decide +kernel
theorem fn_2_14 : (TT 2 14).2.2.2 = false := rfl
theorem ty_2_14 : tyF 2 14 = .boolean := rfl
theorem ff_2_15 : 15 < fN 2 ∧ fkd 2 15 = 4 := by decide +kernel
theorem ff_2_16 : 16 < fN 2 ∧ fkd 2 16 = 4 := by decide +kernel
theorem ff_2_17 : 17 < fN 2 ∧ fkd 2 17 = 0 := by decide +kernel
theorem fn_2_17 : (TT 2 17).2.2.2 = false := rfl
theorem ty_2_17 : tyF 2 17 = .int := rfl
theorem ff_3_0 : 0 < fN 3 ∧ fkd 3 0 = 4 := by decide +kernel
theorem ff_3_1 : 1 < fN 3 ∧ fkd 3 1 = 4 := by decide +kernel
theorem ff_4_0 : 0 < fN 4 ∧ fkd 4 0 = 4 := by decide +kernel
theorem ff_4_1 : 1 < fN 4 ∧ fkd 4 1 = 4 := by decide +kernel
theorem ff_4_2 : 2 < fN 4 ∧ fkd 4 2 = 4 := by decide +kernel
theorem ff_4_3 : 3 < fN 4 ∧ fkd 4 3 = 4 := by decide +kernel
theorem ff_4_4 : 4 < fN 4 ∧ fkd 4 4 = 0 := by decide +kernel
theorem fn_4_4 : (TT 4 4).2.2.2 = false := rfl
theorem ty_4_4 : tyF 4 4 = .int := rfl
theorem ff_4_5 : 5 < fN 4 ∧ fkd 4 5 = 0 := by decide +kernel
theorem fn_4_5 : (TT 4 5).2.2.2 = false := rfl
theorem ty_4_5 : tyF 4 5 = .int := rfl
theorem ff_4_6 : 6 < fN 4 ∧ fkd 4 6 = 4 := by decide +kernel
theorem ff_4_7 : 7 < fN 4 ∧ fkd 4 7 = 4 := by decide +kernel
theorem ff_4_8 : 8 < fN 4 ∧ fkd 4 8 = 0 := by decide +kernel
theorem fn_4_8 : (TT 4 8).2.2.2 = false := rfl
theorem ty_4_8 : tyF 4 8 = .int := rfl
theorem ff_4_9 : 9 < fN 4 ∧ fkd 4 9 = 4 := by decide +kernel
theorem ff_4_10 : 10 < fN 4 ∧ fkd 4 10 = 4 := by decide +kernel
theorem ff_5_0 : 0 < fN 5 ∧ fkd 5 0 = 4 := by decide +kernel
theorem ff_5_1 : 1 < fN 5 ∧ fkd 5 1 = 4 := by decide +kernel
theorem ff_5_2 : 2 < fN 5 ∧ fkd 5 2 = 4 := by decide +kernel
theorem ff_5_3 : 3 < fN 5 ∧ fkd 5 3 = 4 := by decide +kernel
theorem ff_5_4 : 4 < fN 5 ∧ fkd 5 4 = 4 := by decide +kernel
theorem ff_5_5 : 5 < fN 5 ∧ fkd 5 5 = 4 := by decide +kernel
theorem ff_5_6 : 6 < fN 5 ∧ fkd 5 6 = 0 := by decide +kernel
theorem fn_5_6 : (TT 5 6).2.2.2 = false := rfl
theorem ty_5_6 : tyF 5 6 = .int := rfl
theorem ff_6_0 : 0 < fN 6 ∧ fkd 6 0 = 4 := by decide +kernel
theorem ff_6_1 : 1 < fN 6 ∧ fkd 6 1 = 0 := by decide +kernel
theorem fn_6_1 : (TT 6 1).2.2.2 = false := rfl
theorem ty_6_1 : tyF 6 1 = .int := rfl
theorem ff_6_2 : 2 < fN 6 ∧ fkd 6 2 = 0 := by decide +kernel
theorem fn_6_2 : (TT 6 2).2.2.2 = false := rfl
theorem ty_6_2 : tyF 6 2 = .int := rfl
theorem ff_6_3 : 3 < fN 6 ∧ fkd 6 3 = 0 := by decide +kernel
theorem fn_6_3 : (TT 6 3).2.2.2 = false := rfl
theorem ty_6_3 : tyF 6 3 = .int := rfl
theorem ff_6_4 : 4 < fN 6 ∧ fkd 6 4 = 0 := by decide +kernel
theorem fn_6_4 : (TT 6 4).2.2.2 = false := rfl
theorem ty_6_4 : tyF 6 4 = .int := rfl
theorem ff_7_0 : 0 < fN 7 ∧ fkd 7 0 = 4 := by decide +kernel
theorem ff_7_1 : 1 < fN 7 ∧ fkd 7 1 = 0 := by decide +kernel
theorem fn_7_1 : (TT 7 1).2.2.2 = false := rfl
theorem ty_7_1 : tyF 7 1 = .int := rfl
theorem ff_7_2 : 2 < fN 7 ∧ fkd 7 2 = 4 := by decide +kernel
theorem ff_7_3 : 3 < fN 7 ∧ fkd 7 3 = 0 := by decide +kernel
theorem fn_7_3 : (TT 7 3).2.2.2 = false := rfl
theorem ty_7_3 : tyF 7 3 = .int := rfl
theorem ff_7_4 : 4 < fN 7 ∧ fkd 7 4 = 0 := by decide +kernel
theorem fn_7_4 : (TT 7 4).2.2.2 = false := rfl
theorem ty_7_4 : tyF 7 4 = .int := rfl
theorem ff_7_5 : 5 < fN 7 ∧ fkd 7 5 = 0 := by decide +kernel
theorem fn_7_5 : (TT 7 5).2.2.2 = false := rfl
theorem ty_7_5 : tyF 7 5 = .int := rfl
theorem ff_7_6 : 6 < fN 7 ∧ fkd 7 6 = 0 := by decide +kernel
theorem fn_7_6 : (TT 7 6).2.2.2 = false := rfl
theorem ty_7_6 : tyF 7 6 = .int := rfl
theorem ff_7_7 : 7 < fN 7 ∧ fkd 7 7 = 0 := by decide +kernel
theorem fn_7_7 : (TT 7 7).2.2.2 = false := rfl
theorem ty_7_7 : tyF 7 7 = .int := rfl
theorem ff_7_8 : 8 < fN 7 ∧ fkd 7 8 = 0 := by decide +kernel
theorem fn_7_8 : (TT 7 8).2.2.2 = false := rfl
theorem ty_7_8 : tyF 7 8 = .int := rfl
theorem ff_7_9 : 9 < fN 7 ∧ fkd 7 9 = 0 := by decide +kernel
theorem fn_7_9 : (TT 7 9).2.2.2 = false := rfl
theorem ty_7_9 : tyF 7 9 = .int := rfl
theorem ff_7_10 : 10 < fN 7 ∧ fkd 7 10 = 4 := by decide +kernel
theorem ff_8_0 : 0 < fN 8 ∧ fkd 8 0 = 4 := by decide +kernel
theorem ff_8_1 : 1 < fN 8 ∧ fkd 8 1 = 4 := by decide +kernel
theorem ff_8_2 : 2 < fN 8 ∧ fkd 8 2 = 4 := by decide +kernel
theorem ff_8_3 : 3 < fN 8 ∧ fkd 8 3 = 4 := by decide +kernel
theorem ff_8_4 : 4 < fN 8 ∧ fkd 8 4 = 0 := by decide +kernel
theorem fn_8_4 : (TT 8 4).2.2.2 = false := rfl
theorem ty_8_4 : tyF 8 4 = .int := rfl
theorem ff_9_0 : 0 < fN 9 ∧ fkd 9 0 = 4 := by decide +kernel
theorem ff_9_1 : 1 < fN 9 ∧ fkd 9 1 = 4 := by decide +kernel
theorem ff_9_2 : 2 < fN 9 ∧ fkd 9 2 = 4 := by decide +kernel
theorem ff_9_3 : 3 < fN 9 ∧ fkd 9 3 = 4 := by decide +kernel
theorem ff_9_4 : 4 < fN 9 ∧ fkd 9 4 = 4 := by decide +kernel
theorem ff_9_5 : 5 < fN 9 ∧ fkd 9 5 = 4 := by decide +kernel
theorem ff_9_6 : 6 < fN 9 ∧ fkd 9 6 = 4 := by decide +kernel
theorem ff_9_7 : 7 < fN 9 ∧ fkd 9 7 = 4 := by decide +kernel
theorem ff_9_8 : 8 < fN 9 ∧ fkd 9 8 = 4 := by decide +kernel
theorem ff_9_9 : 9 < fN 9 ∧ fkd 9 9 = 4 := by decide +kernel
theorem ff_9_10 : 10 < fN 9 ∧ fkd 9 10 = 4 := by decide +kernel
theorem ff_9_11 : 11 < fN 9 ∧ fkd 9 11 = 0 := by decide +kernel
theorem fn_9_11 : (TT 9 11).2.2.2 = false := rfl
theorem ty_9_11 : tyF 9 11 = .int := rfl
theorem ff_10_0 : 0 < fN 10 ∧ fkd 10 0 = 0 := by decide +kernel
theorem fn_10_0 : (TT 10 0).2.2.2 = false := rfl
theorem ty_10_0 : tyF 10 0 = .int := rfl
theorem ff_10_1 : 1 < fN 10 ∧ fkd 10 1 = 0 := by decide +kernel
theorem fn_10_1 : (TT 10 1).2.2.2 = false := rfl
theorem ty_10_1 : tyF 10 1 = .int := rfl
theorem ff_10_2 : 2 < fN 10 ∧ fkd 10 2 = 4 := by decide +kernel
theorem ff_10_3 : 3 < fN 10 ∧ fkd 10 3 = 4 := by decide +kernel
theorem ff_10_4 : 4 < fN 10 ∧ fkd 10 4 = 4 := by decide +kernel
theorem ff_10_5 : 5 < fN 10 ∧ fkd 10 5 = 0 := by decide +kernel
theorem fn_10_5 : (TT 10 5).2.2.2 = false := rfl
theorem ty_10_5 : tyF 10 5 = .int := rfl
theorem ff_10_6 : 6 < fN 10 ∧ fkd 10 6 = 4 := by decide +kernel
theorem ff_10_7 : 7 < fN 10 ∧ fkd 10 7 = 4 := by decide +kernel
theorem ff_10_8 : 8 < fN 10 ∧ fkd 10 8 = 4 := by decide +kernel
theorem ff_10_9 : 9 < fN 10 ∧ fkd 10 9 = 4 := by decide +kernel
theorem ff_10_10 : 10 < fN 10 ∧ fkd 10 10 = 4 := by decide +kernel
theorem ff_10_11 : 11 < fN 10 ∧ fkd 10 11 = 1 := by decide +kernel
theorem fn_10_11 : (TT 10 11).2.2.2 = false := rfl
theorem ty_10_11 : tyF 10 11 = .boolean := rfl
theorem ff_10_12 : 12 < fN 10 ∧ fkd 10 12 = 4 := by decide +kernel
theorem ff_10_13 : 13 < fN 10 ∧ fkd 10 13 = 4 := by decide +kernel
theorem ff_10_14 : 14 < fN 10 ∧ fkd 10 14 = 4 := by decide +kernel
theorem ff_10_15 : 15 < fN 10 ∧ fkd 10 15 = 0 := by decide +kernel
theorem fn_10_15 : (TT 10 15).2.2.2 = false := rfl
theorem ty_10_15 : tyF 10 15 = .int := rfl
theorem ff_10_16 : 16 < fN 10 ∧ fkd 10 16 = 4 := by decide +kernel
theorem ff_10_17 : 17 < fN 10 ∧ fkd 10 17 = 0 := by decide +kernel
theorem fn_10_17 : (TT 10 17).2.2.2 = false := rfl
theorem ty_10_17 : tyF 10 17 = .int := rfl
theorem ff_10_18 : 18 < fN 10 ∧ fkd 10 18 = 4 := by decide +kernel
theorem ff_10_19 : 19 < fN 10 ∧ fkd 10 19 = 4 := by decide +kernel
theorem ff_10_20 : 20 < fN 10 ∧ fkd 10 20 = 4 := by decide +kernel
theorem ff_10_21 : 21 < fN 10 ∧ fkd 10 21 = 4 := by decide +kernel
theorem ff_10_22 : 22 < fN 10 ∧ fkd 10 22 = 4 := by decide +kernel
theorem ff_10_23 : 23 < fN 10 ∧ fkd 10 23 = 4 := by decide +kernel
theorem ff_10_24 : 24 < fN 10 ∧ fkd 10 24 = 0 := by decide +kernel
theorem fn_10_24 : (TT 10 24).2.2.2 = false := rfl
theorem ty_10_24 : tyF 10 24 = .int := rfl
theorem ff_10_25 : 25 < fN 10 ∧ fkd 10 25 = 4 := by decide +kernel
theorem ff_10_26 : 26 < fN 10 ∧ fkd 10 26 = 0 := by decide +kernel
theorem fn_10_26 : (TT 10 26).2.2.2 = false := rfl
theorem ty_10_26 : tyF 10 26 = .int := rfl
theorem ff_10_27 : 27 < fN 10 ∧ fkd 10 27 = 0 := by decide +kernel
theorem fn_10_27 : (TT 10 27).2.2.2 = false := rfl
theorem ty_10_27 : tyF 10 27 = .int := rfl
theorem ff_10_28 : 28 < fN 10 ∧ fkd 10 28 = 0 := by decide +kernel
theorem fn_10_28 : (TT 10 28).2.2.2 = false := rfl
theorem ty_10_28 : tyF 10 28 = .int := rfl
theorem ff_10_29 : 29 < fN 10 ∧ fkd 10 29 = 0 := by decide +kernel
theorem fn_10_29 : (TT 10 29).2.2.2 = false := rfl
theorem ty_10_29 : tyF 10 29 = .int := rfl
theorem ff_10_30 : 30 < fN 10 ∧ fkd 10 30 = 0 := by decide +kernel
theorem fn_10_30 : (TT 10 30).2.2.2 = false := rfl
theorem ty_10_30 : tyF 10 30 = .int := rfl
theorem ff_10_31 : 31 < fN 10 ∧ fkd 10 31 = 0 := by decide +kernel
theorem fn_10_31 : (TT 10 31).2.2.2 = false := rfl
theorem ty_10_31 : tyF 10 31 = .int := rfl
theorem ff_10_32 : 32 < fN 10 ∧ fkd 10 32 = 4 := by decide +kernel
theorem ff_10_33 : 33 < fN 10 ∧ fkd 10 33 = 4 := by decide +kernel
theorem ff_10_34 : 34 < fN 10 ∧ fkd 10 34 = 0 := by decide +kernel
theorem fn_10_34 : (TT 10 34).2.2.2 = false := rfl
theorem ty_10_34 : tyF 10 34 = .int := rfl
theorem ff_10_35 : 35 < fN 10 ∧ fkd 10 35 = 4 := by decide +kernel
theorem ff_10_36 : 36 < fN 10 ∧ fkd 10 36 = 0 := by decide +kernel
theorem fn_10_36 : (TT 10 36).2.2.2 = false := rfl
theorem ty_10_36 : tyF 10 36 = .int := rfl
theorem ff_10_37 : 37 < fN 10 ∧ fkd 10 37 = 0 := by decide +kernel
theorem fn_10_37 : (TT 10 37).2.2.2 = false := rfl
theorem ty_10_37 : tyF 10 37 = .int := rfl
theorem ff_10_38 : 38 < fN 10 ∧ fkd 10 38 = 0 := by decide +kernel
theorem fn_10_38 : (TT 10 38).2.2.2 = false := rfl
theorem ty_10_38 : tyF 10 38 = .int := rfl
theorem ff_10_39 : 39 < fN 10 ∧ fkd 10 39 = 0 := by decide +kernel
theorem fn_10_39 : (TT 10 39).2.2.2 = false := rfl
theorem ty_10_39 : tyF 10 39 = .int := rfl
theorem ff_10_40 : 40 < fN 10 ∧ fkd 10 40 = 4 := by decide +kernel
theorem ff_10_41 : 41 < fN 10 ∧ fkd 10 41 = 4 := by decide +kernel
theorem ff_10_42 : 42 < fN 10 ∧ fkd 10 42 = 4 := by decide +kernel
theorem ff_10_43 : 43 < fN 10 ∧ fkd 10 43 = 4 := by decide +kernel
theorem ff_10_44 : 44 < fN 10 ∧ fkd 10 44 = 4 := by decide +kernel
theorem ff_10_45 : 45 < fN 10 ∧ fkd 10 45 = 4 := by decide +kernel
theorem ff_10_46 : 46 < fN 10 ∧ fkd 10 46 = 4 := by decide +kernel
theorem ff_10_47 : 47 < fN 10 ∧ fkd 10 47 = 4 := by decide +kernel
theorem ff_10_48 : 48 < fN 10 ∧ fkd 10 48 = 4 := by decide +kernel
theorem ff_10_49 : 49 < fN 10 ∧ fkd 10 49 = 4 := by decide +kernel
theorem ff_10_50 : 50 < fN 10 ∧ fkd 10 50 = 4 := by decide +kernel
theorem ff_10_51 : 51 < fN 10 ∧ fkd 10 51 = 4 := by decide +kernel
theorem ff_10_52 : 52 < fN 10 ∧ fkd 10 52 = 4 := by decide +kernel
theorem ff_10_53 : 53 < fN 10 ∧ fkd 10 53 = 4 := by decide +kernel
theorem ff_10_54 : 54 < fN 10 ∧ fkd 10 54 = 4 := by decide +kernel
theorem ff_10_55 : 55 < fN 10 ∧ fkd 10 55 = 4 := by decide +kernel
theorem ff_10_56 : 56 < fN 10 ∧ fkd 10 56 = 4 := by decide +kernel
theorem ff_10_57 : 57 < fN 10 ∧ fkd 10 57 = 4 := by decide +kernel
theorem ff_10_58 : 58 < fN 10 ∧ fkd 10 58 = 4 := by decide +kernel
theorem ff_10_59 : 59 < fN 10 ∧ fkd 10 59 = 0 := by decide +kernel
theorem fn_10_59 : (TT 10 59).2.2.2 = false := rfl
theorem ty_10_59 : tyF 10 59 = .int := rfl
theorem ff_10_60 : 60 < fN 10 ∧ fkd 10 60 = 4 := by decide +kernel
theorem ff_10_61 : 61 < fN 10 ∧ fkd 10 61 = 4 := by decide +kernel
theorem ff_10_62 : 62 < fN 10 ∧ fkd 10 62 = 4 := by decide +kernel
theorem ff_10_63 : 63 < fN 10 ∧ fkd 10 63 = 4 := by decide +kernel
theorem ff_10_64 : 64 < fN 10 ∧ fkd 10 64 = 0 := by decide +kernel
theorem fn_10_64 : (TT 10 64).2.2.2 = false := rfl
theorem ty_10_64 : tyF 10 64 = .int := rfl
theorem ff_10_65 : 65 < fN 10 ∧ fkd 10 65 = 4 := by decide +kernel
theorem ff_10_66 : 66 < fN 10 ∧ fkd 10 66 = 0 := by decide +kernel
theorem fn_10_66 : (TT 10 66).2.2.2 = false := rfl
theorem ty_10_66 : tyF 10 66 = .int := rfl
theorem ff_10_67 : 67 < fN 10 ∧ fkd 10 67 = 4 := by decide +kernel
theorem ff_10_68 : 68 < fN 10 ∧ fkd 10 68 = 1 := by decide +kernel
theorem fn_10_68 : (TT 10 68).2.2.2 = false := rfl
theorem ty_10_68 : tyF 10 68 = .boolean := rfl
theorem ff_10_69 : 69 < fN 10 ∧ fkd 10 69 = 4 := by decide +kernel
theorem ff_10_70 : 70 < fN 10 ∧ fkd 10 70 = 4 := by decide +kernel
theorem ff_10_71 : 71 < fN 10 ∧ fkd 10 71 = 4 := by decide +kernel
theorem ff_10_72 : 72 < fN 10 ∧ fkd 10 72 = 0 := by decide +kernel
theorem fn_10_72 : (TT 10 72).2.2.2 = false := rfl
theorem ty_10_72 : tyF 10 72 = .int := rfl
theorem ff_10_73 : 73 < fN 10 ∧ fkd 10 73 = 4 := by decide +kernel
theorem ff_10_74 : 74 < fN 10 ∧ fkd 10 74 = 4 := by decide +kernel
theorem ff_10_75 : 75 < fN 10 ∧ fkd 10 75 = 4 := by decide +kernel
theorem ff_10_76 : 76 < fN 10 ∧ fkd 10 76 = 4 := by decide +kernel
theorem ff_10_77 : 77 < fN 10 ∧ fkd 10 77 = 4 := by decide +kernel
theorem ff_10_78 : 78 < fN 10 ∧ fkd 10 78 = 0 := by decide +kernel
theorem fn_10_78 : (TT 10 78).2.2.2 = false := rfl
theorem ty_10_78 : tyF 10 78 = .int := rfl
theorem ff_10_79 : 79 < fN 10 ∧ fkd 10 79 = 0 := by decide +kernel
theorem fn_10_79 : (TT 10 79).2.2.2 = false := rfl
theorem ty_10_79 : tyF 10 79 = .int := rfl
theorem ff_10_80 : 80 < fN 10 ∧ fkd 10 80 = 0 := by decide +kernel
theorem fn_10_80 : (TT 10 80).2.2.2 = false := rfl
theorem ty_10_80 : tyF 10 80 = .int := rfl
theorem ff_10_81 : 81 < fN 10 ∧ fkd 10 81 = 0 := by decide +kernel
theorem fn_10_81 : (TT 10 81).2.2.2 = false := rfl
theorem ty_10_81 : tyF 10 81 = .int := rfl
theorem ff_10_82 : 82 < fN 10 ∧ fkd 10 82 = 0 := by decide +kernel
theorem fn_10_82 : (TT 10 82).2.2.2 = false := rfl
theorem ty_10_82 : tyF 10 82 = .int := rfl
theorem ok_1 : okD ownC 1 (0, 9) := okD_dec (by decide +kernel)
theorem ok_2 : okD ownC 2 (0, 4) := okD_dec (by decide +kernel)
theorem ok_3 : okD ownC 3 (1, 20) := okD_dec (by decide +kernel)
theorem ok_4 : okD ownC 4 (1, 20) := okD_dec (by decide +kernel)
theorem ok_5 : okD ownC 5 (1, 20) := okD_dec (by decide +kernel)
theorem ok_6 : okD ownC 6 (1, 4) := okD_dec (by decide +kernel)
theorem ok_7 : okD ownC 7 (1, 4020) := okD_dec (by decide +kernel)
theorem ok_8 : okD ownC 8 (1, 4020) := okD_dec (by decide +kernel)
theorem ok_9 : okD ownC 9 (1, 64) := okD_dec (by decide +kernel)
theorem ok_10 : okD ownC 10 (1, 64) := okD_dec (by decide +kernel)
theorem ok_11 : okD ownC 11 (0, 8) := okD_dec (by decide +kernel)
theorem ok_12 : okD ownC 12 (1, 30) := okD_dec (by decide +kernel)
theorem ok_13 : okD ownC 13 (1, 30) := okD_dec (by decide +kernel)
theorem ok_14 : okD ownC 14 (1, 30) := okD_dec (by decide +kernel)
theorem ok_15 : okD ownC 15 (1, 30) := okD_dec (by decide +kernel)
theorem ok_16 : okD ownC 16 (1, 8) := okD_dec (by decide +kernel)
theorem ok_17 : okD ownC 17 (0, 5) := okD_dec (by decide +kernel)
theorem ok_18 : okD ownC 18 (1, 6) := okD_dec (by decide +kernel)
theorem ok_19 : okD ownC 19 (1, 6) := okD_dec (by decide +kernel)
theorem ok_20 : okD ownC 20 (1, 60) := okD_dec (by decide +kernel)
theorem ok_21 : okD ownC 21 (1, 60) := okD_dec (by decide +kernel)
theorem ok_22 : okD ownC 22 (1, 60) := okD_dec (by decide +kernel)
theorem ok_23 : okD ownC 23 (1, 60) := okD_dec (by decide +kernel)
theorem ok_24 : okD ownC 24 (0, 7) := okD_dec (by decide +kernel)
theorem ok_25 : okD ownC 25 (1, 6) := okD_dec (by decide +kernel)
theorem ok_26 : okD ownC 26 (1, 5) := okD_dec (by decide +kernel)
theorem ok_27 : okD ownC 27 (0, 6) := okD_dec (by decide +kernel)
theorem ok_28 : okD ownC 28 (1, 160) := okD_dec (by decide +kernel)
theorem ok_29 : okD ownC 29 (0, 2) := okD_dec (by decide +kernel)
theorem ok_30 : okD ownC 30 (4, 40) := okD_dec (by decide +kernel)
theorem ok_31 : okD ownC 31 (1, 20) := okD_dec (by decide +kernel)
theorem ok_32 : okD ownC 32 (1, 20) := okD_dec (by decide +kernel)
theorem ok_75 : okD ownC 75 (0, 1) := okD_dec (by decide +kernel)
theorem ok_76 : okD ownC 76 (1, 64) := okD_dec (by decide +kernel)
theorem ok_77 : okD ownC 77 (0, 3) := okD_dec (by decide +kernel)
theorem ok_78 : okD ownC 78 (1, 12) := okD_dec (by decide +kernel)
theorem ok_79 : okD ownC 79 (1, 9) := okD_dec (by decide +kernel)
theorem ok_80 : okD ownC 80 (0, 2) := okD_dec (by decide +kernel)
theorem ok_126 : okD ownC 126 (1, 16) := okD_dec (by decide +kernel)
theorem ok_127 : okD ownR 127 (0, 10) := okD_dec (by decide +kernel)
theorem ok_128 : okD ownR 128 (1, 20) := okD_dec (by decide +kernel)
theorem ok_129 : okD ownR 129 (1, 20) := okD_dec (by decide +kernel)
theorem ok_130 : okD ownR 130 (1, 20) := okD_dec (by decide +kernel)
theorem ok_131 : okD ownR 131 (1, 30) := okD_dec (by decide +kernel)
theorem ok_132 : okD ownR 132 (1, 30) := okD_dec (by decide +kernel)
theorem ok_133 : okD ownR 133 (1, 30) := okD_dec (by decide +kernel)
theorem ok_134 : okD ownR 134 (1, 30) := okD_dec (by decide +kernel)
theorem ok_135 : okD ownR 135 (1, 8) := okD_dec (by decide +kernel)
theorem ok_136 : okD ownR 136 (1, 14000) := okD_dec (by decide +kernel)
theorem ok_137 : okD ownR 137 (1, 14000) := okD_dec (by decide +kernel)
theorem ok_138 : okD ownR 138 (1, 14000) := okD_dec (by decide +kernel)
theorem ok_139 : okD ownR 139 (1, 65) := okD_dec (by decide +kernel)
theorem ok_140 : okD ownR 140 (1, 6) := okD_dec (by decide +kernel)
theorem ok_141 : okD ownR 141 (1, 6) := okD_dec (by decide +kernel)
theorem ok_142 : okD ownR 142 (1, 60) := okD_dec (by decide +kernel)
theorem ok_143 : okD ownR 143 (1, 60) := okD_dec (by decide +kernel)
theorem ok_144 : okD ownR 144 (1, 60) := okD_dec (by decide +kernel)
theorem ok_145 : okD ownR 145 (1, 60) := okD_dec (by decide +kernel)
theorem ok_146 : okD ownR 146 (1, 160) := okD_dec (by decide +kernel)
theorem ok_147 : okD ownR 147 (2, 6) := okD_dec (by decide +kernel)
theorem ok_148 : okD ownR 148 (1, 6) := okD_dec (by decide +kernel)
theorem ok_149 : okD ownR 149 (1, 9) := okD_dec (by decide +kernel)
theorem ok_150 : okD ownR 150 (1, 40) := okD_dec (by decide +kernel)
theorem ok_151 : okD ownR 151 (1, 40) := okD_dec (by decide +kernel)
theorem ok_152 : okD ownR 152 (1, 40) := okD_dec (by decide +kernel)
theorem ok_153 : okD ownR 153 (1, 40) := okD_dec (by decide +kernel)
theorem ok_154 : okD ownR 154 (1, 40) := okD_dec (by decide +kernel)
theorem ok_155 : okD ownR 155 (1, 40) := okD_dec (by decide +kernel)
theorem ok_156 : okD ownR 156 (1, 40) := okD_dec (by decide +kernel)
theorem ok_157 : okD ownR 157 (2, 40) := okD_dec (by decide +kernel)
theorem ok_158 : okD ownR 158 (1, 40) := okD_dec (by decide +kernel)
theorem ok_159 : okD ownR 159 (1, 40) := okD_dec (by decide +kernel)
theorem ok_160 : okD ownR 160 (1, 40) := okD_dec (by decide +kernel)
theorem ok_161 : okD ownR 161 (1, 40) := okD_dec (by decide +kernel)
theorem ok_162 : okD ownR 162 (1, 40) := okD_dec (by decide +kernel)
theorem ok_163 : okD ownR 163 (1, 40) := okD_dec (by decide +kernel)
theorem ok_164 : okD ownR 164 (1, 40) := okD_dec (by decide +kernel)
theorem ok_165 : okD ownR 165 (1, 120) := okD_dec (by decide +kernel)
theorem ok_166 : okD ownR 166 (1, 20) := okD_dec (by decide +kernel)
theorem ok_167 : okD ownR 167 (1, 20) := okD_dec (by decide +kernel)
theorem ok_168 : okD ownR 168 (1, 20) := okD_dec (by decide +kernel)
theorem ok_169 : okD ownR 169 (1, 482) := okD_dec (by decide +kernel)
theorem ok_170 : okD ownR 170 (1, 8) := okD_dec (by decide +kernel)
theorem ok_171 : okD ownR 171 (1, 40) := okD_dec (by decide +kernel)
theorem ok_172 : okD ownR 172 (1, 40) := okD_dec (by decide +kernel)
theorem ok_173 : okD ownR 173 (2, 20) := okD_dec (by decide +kernel)
theorem ok_174 : okD ownR 174 (1, 81) := okD_dec (by decide +kernel)
theorem ok_175 : okD ownR 175 (1, 81) := okD_dec (by decide +kernel)
theorem ok_176 : okD ownR 176 (1, 12) := okD_dec (by decide +kernel)
theorem ok_177 : okD ownR 177 (1, 10000) := okD_dec (by decide +kernel)
theorem ok_178 : okD ownR 178 (1, 4) := okD_dec (by decide +kernel)
theorem ok_179 : okD ownR 179 (1, 4) := okD_dec (by decide +kernel)
theorem ok_180 : okD ownR 180 (1, 4) := okD_dec (by decide +kernel)
theorem ok_181 : okD ownR 181 (1, 4) := okD_dec (by decide +kernel)
theorem ok_182 : okD ownR 182 (1, 40) := okD_dec (by decide +kernel)
theorem rf_1_0 : rfs 1 0 = 2 := by decide +kernel
theorem rf_1_1 : rfs 1 1 = 11 := by decide +kernel
theorem rf_1_2 : rfs 1 2 = 16 := by decide +kernel
theorem rf_1_3 : rfs 1 3 = 17 := by decide +kernel
theorem rf_1_4 : rfs 1 4 = 24 := by decide +kernel
theorem rf_1_5 : rfs 1 5 = 27 := by decide +kernel
theorem rf_1_6 : rfs 1 6 = 29 := by decide +kernel
theorem rf_1_7 : rfs 1 7 = 75 := by decide +kernel
theorem rf_1_8 : rfs 1 8 = 77 := by decide +kernel
theorem rf_1_9 : rfs 1 9 = 80 := by decide +kernel
theorem rf_1_10 : rfs 1 10 = 126 := by decide +kernel
theorem rf_2_0 : rfs 2 0 = 3 := by decide +kernel
theorem rf_2_1 : rfs 2 1 = 4 := by decide +kernel
theorem rf_2_2 : rfs 2 2 = 5 := by decide +kernel
theorem rf_2_3 : rfs 2 3 = 6 := by decide +kernel
theorem rf_2_6 : rfs 2 6 = 7 := by decide +kernel
theorem rf_2_7 : rfs 2 7 = 8 := by decide +kernel
theorem rf_2_9 : rfs 2 9 = 9 := by decide +kernel
theorem rf_2_10 : rfs 2 10 = 10 := by decide +kernel
theorem rf_11_0 : rfs 11 0 = 12 := by decide +kernel
theorem rf_11_1 : rfs 11 1 = 13 := by decide +kernel
theorem rf_11_2 : rfs 11 2 = 14 := by decide +kernel
theorem rf_11_3 : rfs 11 3 = 15 := by decide +kernel
theorem rf_17_0 : rfs 17 0 = 18 := by decide +kernel
theorem rf_17_1 : rfs 17 1 = 19 := by decide +kernel
theorem rf_17_2 : rfs 17 2 = 20 := by decide +kernel
theorem rf_17_3 : rfs 17 3 = 21 := by decide +kernel
theorem rf_17_4 : rfs 17 4 = 22 := by decide +kernel
theorem rf_17_5 : rfs 17 5 = 23 := by decide +kernel
theorem rf_24_0 : rfs 24 0 = 17 := by decide +kernel
theorem rf_24_2 : rfs 24 2 = 25 := by decide +kernel
theorem rf_24_10 : rfs 24 10 = 26 := by decide +kernel
theorem rf_27_0 : rfs 27 0 = 28 := by decide +kernel
theorem rf_29_4 : rfs 29 4 = 30 := by decide +kernel
theorem rf_29_8 : rfs 29 8 = 31 := by decide +kernel
theorem rf_29_9 : rfs 29 9 = 32 := by decide +kernel
theorem rf_75_2 : rfs 75 2 = 76 := by decide +kernel
theorem rf_77_0 : rfs 77 0 = 78 := by decide +kernel
theorem rf_77_1 : rfs 77 1 = 79 := by decide +kernel
theorem rf_127_2 : rfs 127 2 = 128 := by decide +kernel
theorem rf_127_3 : rfs 127 3 = 129 := by decide +kernel
theorem rf_127_4 : rfs 127 4 = 130 := by decide +kernel
theorem rf_127_6 : rfs 127 6 = 131 := by decide +kernel
theorem rf_127_7 : rfs 127 7 = 132 := by decide +kernel
theorem rf_127_8 : rfs 127 8 = 133 := by decide +kernel
theorem rf_127_9 : rfs 127 9 = 134 := by decide +kernel
theorem rf_127_10 : rfs 127 10 = 135 := by decide +kernel
theorem rf_127_12 : rfs 127 12 = 136 := by decide +kernel
theorem rf_127_13 : rfs 127 13 = 137 := by decide +kernel
theorem rf_127_14 : rfs 127 14 = 138 := by decide +kernel
theorem rf_127_16 : rfs 127 16 = 139 := by decide +kernel
theorem rf_127_18 : rfs 127 18 = 140 := by decide +kernel
theorem rf_127_19 : rfs 127 19 = 141 := by decide +kernel
theorem rf_127_20 : rfs 127 20 = 142 := by decide +kernel
theorem rf_127_21 : rfs 127 21 = 143 := by decide +kernel
theorem rf_127_22 : rfs 127 22 = 144 := by decide +kernel
theorem rf_127_23 : rfs 127 23 = 145 := by decide +kernel
theorem rf_127_25 : rfs 127 25 = 146 := by decide +kernel
theorem rf_127_32 : rfs 127 32 = 147 := by decide +kernel
theorem rf_127_33 : rfs 127 33 = 148 := by decide +kernel
theorem rf_127_35 : rfs 127 35 = 149 := by decide +kernel
theorem rf_127_40 : rfs 127 40 = 150 := by decide +kernel
theorem rf_127_41 : rfs 127 41 = 151 := by decide +kernel
theorem rf_127_42 : rfs 127 42 = 152 := by decide +kernel
theorem rf_127_43 : rfs 127 43 = 153 := by decide +kernel
theorem rf_127_44 : rfs 127 44 = 154 := by decide +kernel
theorem rf_127_45 : rfs 127 45 = 155 := by decide +kernel
theorem rf_127_46 : rfs 127 46 = 156 := by decide +kernel
theorem rf_127_47 : rfs 127 47 = 157 := by decide +kernel
theorem rf_127_48 : rfs 127 48 = 158 := by decide +kernel
theorem rf_127_49 : rfs 127 49 = 159 := by decide +kernel
theorem rf_127_50 : rfs 127 50 = 160 := by decide +kernel
theorem rf_127_51 : rfs 127 51 = 161 := by decide +kernel
theorem rf_127_52 : rfs 127 52 = 162 := by decide +kernel
theorem rf_127_53 : rfs 127 53 = 163 := by decide +kernel
theorem rf_127_54 : rfs 127 54 = 164 := by decide +kernel
theorem rf_127_55 : rfs 127 55 = 165 := by decide +kernel
theorem rf_127_56 : rfs 127 56 = 166 := by decide +kernel
theorem rf_127_57 : rfs 127 57 = 167 := by decide +kernel
theorem rf_127_58 : rfs 127 58 = 168 := by decide +kernel
theorem rf_127_60 : rfs 127 60 = 169 := by decide +kernel
theorem rf_127_61 : rfs 127 61 = 170 := by decide +kernel
theorem rf_127_62 : rfs 127 62 = 171 := by decide +kernel
theorem rf_127_63 : rfs 127 63 = 172 := by decide +kernel
theorem rf_127_65 : rfs 127 65 = 173 := by decide +kernel
theorem rf_127_67 : rfs 127 67 = 174 := by decide +kernel
theorem rf_127_69 : rfs 127 69 = 175 := by decide +kernel
theorem rf_127_70 : rfs 127 70 = 176 := by decide +kernel
theorem rf_127_71 : rfs 127 71 = 177 := by decide +kernel
theorem rf_127_73 : rfs 127 73 = 178 := by decide +kernel
theorem rf_127_74 : rfs 127 74 = 179 := by decide +kernel
theorem rf_127_75 : rfs 127 75 = 180 := by decide +kernel
theorem rf_127_76 : rfs 127 76 = 181 := by decide +kernel
theorem rf_127_77 : rfs 127 77 = 182 := by decide +kernel
