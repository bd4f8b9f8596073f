/-! what each byte says; written by wip/gen/gen28.py -/
theorem dd_191_83 : decode (mB 191) 83 = .ok (.return_, 1) := by decide +kernel
theorem dd_192_0 : decode (mB 192) 0 = .ok (.aload_n 0, 1) := by decide +kernel
theorem dd_192_1 : decode (mB 192) 1 = .ok (.iload_n 1, 1) := by decide +kernel
theorem dd_192_2 : decode (mB 192) 2 = .ok (.invokevirtual 409, 3) := by decide +kernel
theorem dd_192_5 : decode (mB 192) 5 = .ok (.istore_n 2, 1) := by decide +kernel
theorem dd_192_6 : decode (mB 192) 6 = .ok (.iconst 0, 1) := by decide +kernel
theorem dd_192_7 : decode (mB 192) 7 = .ok (.istore_n 3, 1) := by decide +kernel
theorem dd_192_8 : decode (mB 192) 8 = .ok (.iload_n 3, 1) := by decide +kernel
theorem dd_192_9 : decode (mB 192) 9 = .ok (.bipush 40, 2) := by decide +kernel
theorem dd_192_11 : decode (mB 192) 11 = .ok (.if_icmp .ge 24, 3) := by decide +kernel
theorem dd_192_14 : decode (mB 192) 14 = .ok (.iload_n 2, 1) := by decide +kernel
theorem dd_192_15 : decode (mB 192) 15 = .ok (.ifCond .lt 20, 3) := by decide +kernel
theorem dd_192_18 : decode (mB 192) 18 = .ok (.iload_n 2, 1) := by decide +kernel
theorem dd_192_19 : decode (mB 192) 19 = .ok (.iload_n 1, 1) := by decide +kernel
theorem dd_192_20 : decode (mB 192) 20 = .ok (.if_icmp .eq 15, 3) := by decide +kernel
theorem dd_192_23 : decode (mB 192) 23 = .ok (.aload_n 0, 1) := by decide +kernel
theorem dd_192_24 : decode (mB 192) 24 = .ok (.iload_n 2, 1) := by decide +kernel
theorem dd_192_25 : decode (mB 192) 25 = .ok (.invokevirtual 409, 3) := by decide +kernel
theorem dd_192_28 : decode (mB 192) 28 = .ok (.istore_n 2, 1) := by decide +kernel
theorem dd_192_29 : decode (mB 192) 29 = .ok (.iinc 3 1, 3) := by decide +kernel
theorem dd_192_32 : decode (mB 192) 32 = .ok (.goto (-24), 3) := by decide +kernel
theorem dd_192_35 : decode (mB 192) 35 = .ok (.iload_n 2, 1) := by decide +kernel
theorem dd_192_36 : decode (mB 192) 36 = .ok (.iload_n 1, 1) := by decide +kernel
theorem dd_192_37 : decode (mB 192) 37 = .ok (.if_icmp .ne 7, 3) := by decide +kernel
theorem dd_192_40 : decode (mB 192) 40 = .ok (.iconst 1, 1) := by decide +kernel
theorem dd_192_41 : decode (mB 192) 41 = .ok (.goto 4, 3) := by decide +kernel
theorem dd_192_44 : decode (mB 192) 44 = .ok (.iconst 0, 1) := by decide +kernel
theorem dd_192_45 : decode (mB 192) 45 = .ok (.ireturn, 1) := by decide +kernel
theorem dd_193_0 : decode (mB 193) 0 = .ok (.aload_n 0, 1) := by decide +kernel
theorem dd_193_1 : decode (mB 193) 1 = .ok (.getfield 105, 3) := by decide +kernel
theorem dd_193_4 : decode (mB 193) 4 = .ok (.iload_n 1, 1) := by decide +kernel
theorem dd_193_5 : decode (mB 193) 5 = .ok (.iaload, 1) := by decide +kernel
theorem dd_193_6 : decode (mB 193) 6 = .ok (.iconst 1, 1) := by decide +kernel
theorem dd_193_7 : decode (mB 193) 7 = .ok (.if_icmp .ne 18, 3) := by decide +kernel
theorem dd_193_10 : decode (mB 193) 10 = .ok (.aload_n 0, 1) := by decide +kernel
theorem dd_193_11 : decode (mB 193) 11 = .ok (.getfield 117, 3) := by decide +kernel
theorem dd_193_14 : decode (mB 193) 14 = .ok (.iload_n 1, 1) := by decide +kernel
theorem dd_193_15 : decode (mB 193) 15 = .ok (.iaload, 1) := by decide +kernel
theorem dd_193_16 : decode (mB 193) 16 = .ok (.aload_n 0, 1) := by decide +kernel
theorem dd_193_17 : decode (mB 193) 17 = .ok (.getfield 123, 3) := by decide +kernel
theorem dd_193_20 : decode (mB 193) 20 = .ok (.iload_n 1, 1) := by decide +kernel
theorem dd_193_21 : decode (mB 193) 21 = .ok (.iaload, 1) := by decide +kernel
theorem dd_193_22 : decode (mB 193) 22 = .ok (.if_icmp .lt 5, 3) := by decide +kernel
theorem dd_193_25 : decode (mB 193) 25 = .ok (.iconst (-1), 1) := by decide +kernel
theorem dd_193_26 : decode (mB 193) 26 = .ok (.ireturn, 1) := by decide +kernel
theorem dd_193_27 : decode (mB 193) 27 = .ok (.aload_n 0, 1) := by decide +kernel
theorem dd_193_28 : decode (mB 193) 28 = .ok (.getfield 129, 3) := by decide +kernel
theorem dd_193_31 : decode (mB 193) 31 = .ok (.aload_n 0, 1) := by decide +kernel
theorem dd_193_32 : decode (mB 193) 32 = .ok (.getfield 126, 3) := by decide +kernel
theorem dd_193_35 : decode (mB 193) 35 = .ok (.iconst 3, 1) := by decide +kernel
theorem dd_193_36 : decode (mB 193) 36 = .ok (.iload_n 1, 1) := by decide +kernel
theorem dd_193_37 : decode (mB 193) 37 = .ok (.imul, 1) := by decide +kernel
theorem dd_193_38 : decode (mB 193) 38 = .ok (.aload_n 0, 1) := by decide +kernel
theorem dd_193_39 : decode (mB 193) 39 = .ok (.getfield 117, 3) := by decide +kernel
theorem dd_193_42 : decode (mB 193) 42 = .ok (.iload_n 1, 1) := by decide +kernel
theorem dd_193_43 : decode (mB 193) 43 = .ok (.iaload, 1) := by decide +kernel
theorem dd_193_44 : decode (mB 193) 44 = .ok (.iadd, 1) := by decide +kernel
theorem dd_193_45 : decode (mB 193) 45 = .ok (.iaload, 1) := by decide +kernel
theorem dd_193_46 : decode (mB 193) 46 = .ok (.iaload, 1) := by decide +kernel
theorem dd_193_47 : decode (mB 193) 47 = .ok (.istore_n 2, 1) := by decide +kernel
theorem dd_193_48 : decode (mB 193) 48 = .ok (.iload_n 2, 1) := by decide +kernel
theorem dd_193_49 : decode (mB 193) 49 = .ok (.ifCond .lt 17, 3) := by decide +kernel
theorem dd_193_52 : decode (mB 193) 52 = .ok (.aload_n 0, 1) := by decide +kernel
theorem dd_193_53 : decode (mB 193) 53 = .ok (.getfield 105, 3) := by decide +kernel
theorem dd_193_56 : decode (mB 193) 56 = .ok (.iload_n 2, 1) := by decide +kernel
theorem dd_193_57 : decode (mB 193) 57 = .ok (.iaload, 1) := by decide +kernel
theorem dd_193_58 : decode (mB 193) 58 = .ok (.iconst 1, 1) := by decide +kernel
theorem dd_193_59 : decode (mB 193) 59 = .ok (.if_icmp .ne 7, 3) := by decide +kernel
theorem dd_193_62 : decode (mB 193) 62 = .ok (.iload_n 2, 1) := by decide +kernel
theorem dd_193_63 : decode (mB 193) 63 = .ok (.goto 4, 3) := by decide +kernel
theorem dd_193_66 : decode (mB 193) 66 = .ok (.iconst (-1), 1) := by decide +kernel
theorem dd_193_67 : decode (mB 193) 67 = .ok (.ireturn, 1) := by decide +kernel
theorem dd_194_0 : decode (mB 194) 0 = .ok (.iconst 0, 1) := by decide +kernel
theorem dd_194_1 : decode (mB 194) 1 = .ok (.istore_n 3, 1) := by decide +kernel
theorem dd_194_2 : decode (mB 194) 2 = .ok (.iload_n 3, 1) := by decide +kernel
theorem dd_194_3 : decode (mB 194) 3 = .ok (.aload_n 0, 1) := by decide +kernel
theorem dd_194_4 : decode (mB 194) 4 = .ok (.getfield 352, 3) := by decide +kernel
theorem dd_194_7 : decode (mB 194) 7 = .ok (.if_icmp .ge 44, 3) := by decide +kernel
theorem dd_194_10 : decode (mB 194) 10 = .ok (.aload_n 0, 1) := by decide +kernel
theorem dd_194_11 : decode (mB 194) 11 = .ok (.aload_n 0, 1) := by decide +kernel
theorem dd_194_12 : decode (mB 194) 12 = .ok (.getfield 349, 3) := by decide +kernel
theorem dd_194_15 : decode (mB 194) 15 = .ok (.iconst 3, 1) := by decide +kernel
theorem dd_194_16 : decode (mB 194) 16 = .ok (.iload_n 3, 1) := by decide +kernel
theorem dd_194_17 : decode (mB 194) 17 = .ok (.imul, 1) := by decide +kernel
theorem dd_194_18 : decode (mB 194) 18 = .ok (.ishr, 1) := by decide +kernel
theorem dd_194_19 : decode (mB 194) 19 = .ok (.bipush 7, 2) := by decide +kernel
theorem dd_194_21 : decode (mB 194) 21 = .ok (.iand, 1) := by decide +kernel
theorem dd_194_22 : decode (mB 194) 22 = .ok (.iload_n 1, 1) := by decide +kernel
theorem dd_194_23 : decode (mB 194) 23 = .ok (.iload_n 2, 1) := by decide +kernel
theorem dd_194_24 : decode (mB 194) 24 = .ok (.invokevirtual 406, 3) := by decide +kernel
theorem dd_194_27 : decode (mB 194) 27 = .ok (.istore 4, 2) := by decide +kernel
theorem dd_194_29 : decode (mB 194) 29 = .ok (.iload 4, 2) := by decide +kernel
theorem dd_194_31 : decode (mB 194) 31 = .ok (.ifCond .eq 14, 3) := by decide +kernel
theorem dd_194_34 : decode (mB 194) 34 = .ok (.iload 4, 2) := by decide +kernel
theorem dd_194_36 : decode (mB 194) 36 = .ok (.ifCond .ge 7, 3) := by decide +kernel
theorem dd_194_39 : decode (mB 194) 39 = .ok (.iconst 1, 1) := by decide +kernel
theorem dd_194_40 : decode (mB 194) 40 = .ok (.goto 4, 3) := by decide +kernel
theorem dd_194_43 : decode (mB 194) 43 = .ok (.iconst 0, 1) := by decide +kernel
theorem dd_194_44 : decode (mB 194) 44 = .ok (.ireturn, 1) := by decide +kernel
theorem dd_194_45 : decode (mB 194) 45 = .ok (.iinc 3 1, 3) := by decide +kernel
theorem dd_194_48 : decode (mB 194) 48 = .ok (.goto (-46), 3) := by decide +kernel
theorem dd_194_51 : decode (mB 194) 51 = .ok (.iload_n 1, 1) := by decide +kernel
theorem dd_194_52 : decode (mB 194) 52 = .ok (.iload_n 2, 1) := by decide +kernel
theorem dd_194_53 : decode (mB 194) 53 = .ok (.if_icmp .ge 7, 3) := by decide +kernel
theorem dd_194_56 : decode (mB 194) 56 = .ok (.iconst 1, 1) := by decide +kernel
theorem dd_194_57 : decode (mB 194) 57 = .ok (.goto 4, 3) := by decide +kernel
theorem dd_194_60 : decode (mB 194) 60 = .ok (.iconst 0, 1) := by decide +kernel
theorem dd_194_61 : decode (mB 194) 61 = .ok (.ireturn, 1) := by decide +kernel
theorem dd_195_0 : decode (mB 195) 0 = .ok (.iload_n 1, 1) := by decide +kernel
theorem dd_195_1 : decode (mB 195) 1 = .ok (.tableswitch 135 0 3 #[31, 69, 107, 121], 31) := by decide +kernel
theorem dd_195_32 : decode (mB 195) 32 = .ok (.aload_n 0, 1) := by decide +kernel
theorem dd_195_33 : decode (mB 195) 33 = .ok (.getfield 90, 3) := by decide +kernel
theorem dd_195_36 : decode (mB 195) 36 = .ok (.iload_n 3, 1) := by decide +kernel
theorem dd_195_37 : decode (mB 195) 37 = .ok (.iaload, 1) := by decide +kernel
theorem dd_195_38 : decode (mB 195) 38 = .ok (.iconst 2, 1) := by decide +kernel
theorem dd_195_39 : decode (mB 195) 39 = .ok (.if_icmp .ne 7, 3) := by decide +kernel
theorem dd_195_42 : decode (mB 195) 42 = .ok (.iconst 1, 1) := by decide +kernel
theorem dd_195_43 : decode (mB 195) 43 = .ok (.goto 4, 3) := by decide +kernel
theorem dd_195_46 : decode (mB 195) 46 = .ok (.iconst 0, 1) := by decide +kernel
theorem dd_195_47 : decode (mB 195) 47 = .ok (.invokestatic 314, 3) := by decide +kernel
theorem dd_195_50 : decode (mB 195) 50 = .ok (.aload_n 0, 1) := by decide +kernel
theorem dd_195_51 : decode (mB 195) 51 = .ok (.getfield 90, 3) := by decide +kernel
theorem dd_195_54 : decode (mB 195) 54 = .ok (.iload_n 2, 1) := by decide +kernel
theorem dd_195_55 : decode (mB 195) 55 = .ok (.iaload, 1) := by decide +kernel
theorem dd_195_56 : decode (mB 195) 56 = .ok (.iconst 2, 1) := by decide +kernel
theorem dd_195_57 : decode (mB 195) 57 = .ok (.if_icmp .ne 7, 3) := by decide +kernel
theorem dd_195_60 : decode (mB 195) 60 = .ok (.iconst 1, 1) := by decide +kernel
theorem dd_195_61 : decode (mB 195) 61 = .ok (.goto 4, 3) := by decide +kernel
theorem dd_195_64 : decode (mB 195) 64 = .ok (.iconst 0, 1) := by decide +kernel
theorem dd_195_65 : decode (mB 195) 65 = .ok (.invokestatic 314, 3) := by decide +kernel
theorem dd_195_68 : decode (mB 195) 68 = .ok (.isub, 1) := by decide +kernel
theorem dd_195_69 : decode (mB 195) 69 = .ok (.ireturn, 1) := by decide +kernel
theorem dd_195_70 : decode (mB 195) 70 = .ok (.aload_n 0, 1) := by decide +kernel
theorem dd_195_71 : decode (mB 195) 71 = .ok (.getfield 90, 3) := by decide +kernel
theorem dd_195_74 : decode (mB 195) 74 = .ok (.iload_n 3, 1) := by decide +kernel
theorem dd_195_75 : decode (mB 195) 75 = .ok (.iaload, 1) := by decide +kernel
theorem dd_195_76 : decode (mB 195) 76 = .ok (.iconst 1, 1) := by decide +kernel
theorem dd_195_77 : decode (mB 195) 77 = .ok (.if_icmp .ne 7, 3) := by decide +kernel
theorem dd_195_80 : decode (mB 195) 80 = .ok (.iconst 1, 1) := by decide +kernel
theorem dd_195_81 : decode (mB 195) 81 = .ok (.goto 4, 3) := by decide +kernel
theorem dd_195_84 : decode (mB 195) 84 = .ok (.iconst 0, 1) := by decide +kernel
theorem dd_195_85 : decode (mB 195) 85 = .ok (.invokestatic 314, 3) := by decide +kernel
theorem dd_195_88 : decode (mB 195) 88 = .ok (.aload_n 0, 1) := by decide +kernel
theorem dd_195_89 : decode (mB 195) 89 = .ok (.getfield 90, 3) := by decide +kernel
theorem dd_195_92 : decode (mB 195) 92 = .ok (.iload_n 2, 1) := by decide +kernel
theorem dd_195_93 : decode (mB 195) 93 = .ok (.iaload, 1) := by decide +kernel
theorem dd_195_94 : decode (mB 195) 94 = .ok (.iconst 1, 1) := by decide +kernel
theorem dd_195_95 : decode (mB 195) 95 = .ok (.if_icmp .ne 7, 3) := by decide +kernel
theorem dd_195_98 : decode (mB 195) 98 = .ok (.iconst 1, 1) := by decide +kernel
theorem dd_195_99 : decode (mB 195) 99 = .ok (.goto 4, 3) := by decide +kernel
theorem dd_195_102 : decode (mB 195) 102 = .ok (.iconst 0, 1) := by decide +kernel
theorem dd_195_103 : decode (mB 195) 103 = .ok (.invokestatic 314, 3) := by decide +kernel
theorem dd_195_106 : decode (mB 195) 106 = .ok (.isub, 1) := by decide +kernel
theorem dd_195_107 : decode (mB 195) 107 = .ok (.ireturn, 1) := by decide +kernel
theorem dd_195_108 : decode (mB 195) 108 = .ok (.aload_n 0, 1) := by decide +kernel
theorem dd_195_109 : decode (mB 195) 109 = .ok (.getfield 96, 3) := by decide +kernel
theorem dd_195_112 : decode (mB 195) 112 = .ok (.iload_n 2, 1) := by decide +kernel
theorem dd_195_113 : decode (mB 195) 113 = .ok (.iaload, 1) := by decide +kernel
theorem dd_195_114 : decode (mB 195) 114 = .ok (.aload_n 0, 1) := by decide +kernel
theorem dd_195_115 : decode (mB 195) 115 = .ok (.getfield 96, 3) := by decide +kernel
theorem dd_195_118 : decode (mB 195) 118 = .ok (.iload_n 3, 1) := by decide +kernel
theorem dd_195_119 : decode (mB 195) 119 = .ok (.iaload, 1) := by decide +kernel
theorem dd_195_120 : decode (mB 195) 120 = .ok (.isub, 1) := by decide +kernel
theorem dd_195_121 : decode (mB 195) 121 = .ok (.ireturn, 1) := by decide +kernel
theorem dd_195_122 : decode (mB 195) 122 = .ok (.aload_n 0, 1) := by decide +kernel
theorem dd_195_123 : decode (mB 195) 123 = .ok (.getfield 87, 3) := by decide +kernel
theorem dd_195_126 : decode (mB 195) 126 = .ok (.iload_n 2, 1) := by decide +kernel
theorem dd_195_127 : decode (mB 195) 127 = .ok (.iaload, 1) := by decide +kernel
theorem dd_195_128 : decode (mB 195) 128 = .ok (.aload_n 0, 1) := by decide +kernel
theorem dd_195_129 : decode (mB 195) 129 = .ok (.getfield 87, 3) := by decide +kernel
theorem dd_195_132 : decode (mB 195) 132 = .ok (.iload_n 3, 1) := by decide +kernel
theorem dd_195_133 : decode (mB 195) 133 = .ok (.iaload, 1) := by decide +kernel
theorem dd_195_134 : decode (mB 195) 134 = .ok (.isub, 1) := by decide +kernel
theorem dd_195_135 : decode (mB 195) 135 = .ok (.ireturn, 1) := by decide +kernel
theorem dd_195_136 : decode (mB 195) 136 = .ok (.aload_n 0, 1) := by decide +kernel
theorem dd_195_137 : decode (mB 195) 137 = .ok (.getfield 147, 3) := by decide +kernel
theorem dd_195_140 : decode (mB 195) 140 = .ok (.iload_n 3, 1) := by decide +kernel
theorem dd_195_141 : decode (mB 195) 141 = .ok (.iaload, 1) := by decide +kernel
theorem dd_195_142 : decode (mB 195) 142 = .ok (.aload_n 0, 1) := by decide +kernel
theorem dd_195_143 : decode (mB 195) 143 = .ok (.getfield 147, 3) := by decide +kernel
theorem dd_195_146 : decode (mB 195) 146 = .ok (.iload_n 2, 1) := by decide +kernel
theorem dd_195_147 : decode (mB 195) 147 = .ok (.iaload, 1) := by decide +kernel
theorem dd_195_148 : decode (mB 195) 148 = .ok (.isub, 1) := by decide +kernel
theorem dd_195_149 : decode (mB 195) 149 = .ok (.ireturn, 1) := by decide +kernel
theorem dd_196_0 : decode (mB 196) 0 = .ok (.iconst 0, 1) := by decide +kernel
theorem dd_196_1 : decode (mB 196) 1 = .ok (.istore_n 2, 1) := by decide +kernel
theorem dd_196_2 : decode (mB 196) 2 = .ok (.iconst 0, 1) := by decide +kernel
theorem dd_196_3 : decode (mB 196) 3 = .ok (.istore_n 3, 1) := by decide +kernel
theorem dd_196_4 : decode (mB 196) 4 = .ok (.iload_n 3, 1) := by decide +kernel
theorem dd_196_5 : decode (mB 196) 5 = .ok (.bipush 8, 2) := by decide +kernel
theorem dd_196_7 : decode (mB 196) 7 = .ok (.if_icmp .ge 21, 3) := by decide +kernel
theorem dd_196_10 : decode (mB 196) 10 = .ok (.aload_n 0, 1) := by decide +kernel
theorem dd_196_11 : decode (mB 196) 11 = .ok (.getfield 141, 3) := by decide +kernel
theorem dd_196_14 : decode (mB 196) 14 = .ok (.iload_n 3, 1) := by decide +kernel
theorem dd_196_15 : decode (mB 196) 15 = .ok (.aload_n 0, 1) := by decide +kernel
theorem dd_196_16 : decode (mB 196) 16 = .ok (.getfield 31, 3) := by decide +kernel
theorem dd_196_19 : decode (mB 196) 19 = .ok (.iload_n 3, 1) := by decide +kernel
theorem dd_196_20 : decode (mB 196) 20 = .ok (.iaload, 1) := by decide +kernel
theorem dd_196_21 : decode (mB 196) 21 = .ok (.iastore, 1) := by decide +kernel
theorem dd_196_22 : decode (mB 196) 22 = .ok (.iinc 3 1, 3) := by decide +kernel
theorem dd_196_25 : decode (mB 196) 25 = .ok (.goto (-21), 3) := by decide +kernel
theorem dd_196_28 : decode (mB 196) 28 = .ok (.aload_n 0, 1) := by decide +kernel
theorem dd_196_29 : decode (mB 196) 29 = .ok (.iload_n 1, 1) := by decide +kernel
theorem dd_196_30 : decode (mB 196) 30 = .ok (.invokevirtual 443, 3) := by decide +kernel
theorem dd_196_33 : decode (mB 196) 33 = .ok (.iconst 0, 1) := by decide +kernel
theorem dd_196_34 : decode (mB 196) 34 = .ok (.istore_n 3, 1) := by decide +kernel
theorem dd_196_35 : decode (mB 196) 35 = .ok (.iload_n 3, 1) := by decide +kernel
theorem dd_196_36 : decode (mB 196) 36 = .ok (.aload_n 0, 1) := by decide +kernel
theorem dd_196_37 : decode (mB 196) 37 = .ok (.getfield 437, 3) := by decide +kernel
theorem dd_196_40 : decode (mB 196) 40 = .ok (.if_icmp .ge 79, 3) := by decide +kernel
theorem dd_196_43 : decode (mB 196) 43 = .ok (.aload_n 0, 1) := by decide +kernel
theorem dd_196_44 : decode (mB 196) 44 = .ok (.getfield 144, 3) := by decide +kernel
theorem dd_196_47 : decode (mB 196) 47 = .ok (.iload_n 3, 1) := by decide +kernel
theorem dd_196_48 : decode (mB 196) 48 = .ok (.iaload, 1) := by decide +kernel
theorem dd_196_49 : decode (mB 196) 49 = .ok (.istore 4, 2) := by decide +kernel
theorem dd_196_51 : decode (mB 196) 51 = .ok (.aload_n 0, 1) := by decide +kernel
theorem dd_196_52 : decode (mB 196) 52 = .ok (.getfield 141, 3) := by decide +kernel
theorem dd_196_55 : decode (mB 196) 55 = .ok (.aload_n 0, 1) := by decide +kernel
theorem dd_196_56 : decode (mB 196) 56 = .ok (.getfield 81, 3) := by decide +kernel
theorem dd_196_59 : decode (mB 196) 59 = .ok (.iload 4, 2) := by decide +kernel
theorem dd_196_61 : decode (mB 196) 61 = .ok (.iaload, 1) := by decide +kernel
theorem dd_196_62 : decode (mB 196) 62 = .ok (.iaload, 1) := by decide +kernel
theorem dd_196_63 : decode (mB 196) 63 = .ok (.ifCond .le 50, 3) := by decide +kernel
theorem dd_196_66 : decode (mB 196) 66 = .ok (.aload_n 0, 1) := by decide +kernel
theorem dd_196_67 : decode (mB 196) 67 = .ok (.getfield 141, 3) := by decide +kernel
theorem dd_196_70 : decode (mB 196) 70 = .ok (.aload_n 0, 1) := by decide +kernel
theorem dd_196_71 : decode (mB 196) 71 = .ok (.getfield 81, 3) := by decide +kernel
theorem dd_196_74 : decode (mB 196) 74 = .ok (.iload 4, 2) := by decide +kernel
theorem dd_196_76 : decode (mB 196) 76 = .ok (.iaload, 1) := by decide +kernel
theorem dd_196_77 : decode (mB 196) 77 = .ok (.dup2, 1) := by decide +kernel
theorem dd_196_78 : decode (mB 196) 78 = .ok (.iaload, 1) := by decide +kernel
theorem dd_196_79 : decode (mB 196) 79 = .ok (.aload_n 0, 1) := by decide +kernel
theorem dd_196_80 : decode (mB 196) 80 = .ok (.iload 4, 2) := by decide +kernel
theorem dd_196_82 : decode (mB 196) 82 = .ok (.iload_n 1, 1) := by decide +kernel
theorem dd_196_83 : decode (mB 196) 83 = .ok (.invokevirtual 446, 3) := by decide +kernel
theorem dd_196_86 : decode (mB 196) 86 = .ok (.invokestatic 314, 3) := by decide +kernel
theorem dd_196_89 : decode (mB 196) 89 = .ok (.isub, 1) := by decide +kernel
theorem dd_196_90 : decode (mB 196) 90 = .ok (.iastore, 1) := by decide +kernel
theorem dd_196_91 : decode (mB 196) 91 = .ok (.iload_n 2, 1) := by decide +kernel
theorem dd_196_92 : decode (mB 196) 92 = .ok (.aload_n 0, 1) := by decide +kernel
theorem dd_196_93 : decode (mB 196) 93 = .ok (.getfield 105, 3) := by decide +kernel
theorem dd_196_96 : decode (mB 196) 96 = .ok (.iload 4, 2) := by decide +kernel
theorem dd_196_98 : decode (mB 196) 98 = .ok (.iaload, 1) := by decide +kernel
theorem dd_196_99 : decode (mB 196) 99 = .ok (.iconst 2, 1) := by decide +kernel
theorem dd_196_100 : decode (mB 196) 100 = .ok (.if_icmp .ne 7, 3) := by decide +kernel
theorem dd_196_103 : decode (mB 196) 103 = .ok (.iconst 1, 1) := by decide +kernel
theorem dd_196_104 : decode (mB 196) 104 = .ok (.goto 4, 3) := by decide +kernel
theorem dd_196_107 : decode (mB 196) 107 = .ok (.iconst 0, 1) := by decide +kernel
theorem dd_196_108 : decode (mB 196) 108 = .ok (.invokestatic 314, 3) := by decide +kernel
theorem dd_196_111 : decode (mB 196) 111 = .ok (.iadd, 1) := by decide +kernel
theorem dd_196_112 : decode (mB 196) 112 = .ok (.istore_n 2, 1) := by decide +kernel
theorem dd_196_113 : decode (mB 196) 113 = .ok (.iinc 3 1, 3) := by decide +kernel
theorem dd_196_116 : decode (mB 196) 116 = .ok (.goto (-81), 3) := by decide +kernel
theorem dd_196_119 : decode (mB 196) 119 = .ok (.iload_n 2, 1) := by decide +kernel
theorem dd_196_120 : decode (mB 196) 120 = .ok (.ireturn, 1) := by decide +kernel
theorem dd_197_0 : decode (mB 197) 0 = .ok (.aload_n 0, 1) := by decide +kernel
theorem dd_197_1 : decode (mB 197) 1 = .ok (.iconst 0, 1) := by decide +kernel
theorem dd_197_2 : decode (mB 197) 2 = .ok (.putfield 437, 3) := by decide +kernel
theorem dd_197_5 : decode (mB 197) 5 = .ok (.iconst 0, 1) := by decide +kernel
theorem dd_197_6 : decode (mB 197) 6 = .ok (.istore_n 2, 1) := by decide +kernel
theorem dd_197_7 : decode (mB 197) 7 = .ok (.iload_n 2, 1) := by decide +kernel
theorem dd_197_8 : decode (mB 197) 8 = .ok (.aload_n 0, 1) := by decide +kernel
theorem dd_197_9 : decode (mB 197) 9 = .ok (.getfield 372, 3) := by decide +kernel
theorem dd_197_12 : decode (mB 197) 12 = .ok (.if_icmp .ge 89, 3) := by decide +kernel
theorem dd_197_15 : decode (mB 197) 15 = .ok (.aload_n 0, 1) := by decide +kernel
theorem dd_197_16 : decode (mB 197) 16 = .ok (.getfield 105, 3) := by decide +kernel
theorem dd_197_19 : decode (mB 197) 19 = .ok (.iload_n 2, 1) := by decide +kernel
theorem dd_197_20 : decode (mB 197) 20 = .ok (.iaload, 1) := by decide +kernel
theorem dd_197_21 : decode (mB 197) 21 = .ok (.ifCond .lt 74, 3) := by decide +kernel
theorem dd_197_24 : decode (mB 197) 24 = .ok (.aload_n 0, 1) := by decide +kernel
theorem dd_197_25 : decode (mB 197) 25 = .ok (.iload_n 2, 1) := by decide +kernel
theorem dd_197_26 : decode (mB 197) 26 = .ok (.iload_n 1, 1) := by decide +kernel
theorem dd_197_27 : decode (mB 197) 27 = .ok (.invokevirtual 440, 3) := by decide +kernel
theorem dd_197_30 : decode (mB 197) 30 = .ok (.ifCond .eq 65, 3) := by decide +kernel
theorem dd_197_33 : decode (mB 197) 33 = .ok (.aload_n 0, 1) := by decide +kernel
theorem dd_197_34 : decode (mB 197) 34 = .ok (.getfield 437, 3) := by decide +kernel
theorem dd_197_37 : decode (mB 197) 37 = .ok (.istore_n 3, 1) := by decide +kernel
theorem dd_197_38 : decode (mB 197) 38 = .ok (.iload_n 3, 1) := by decide +kernel
theorem dd_197_39 : decode (mB 197) 39 = .ok (.ifCond .le 39, 3) := by decide +kernel
theorem dd_197_42 : decode (mB 197) 42 = .ok (.aload_n 0, 1) := by decide +kernel
theorem dd_197_43 : decode (mB 197) 43 = .ok (.iload_n 2, 1) := by decide +kernel
theorem dd_197_44 : decode (mB 197) 44 = .ok (.aload_n 0, 1) := by decide +kernel
theorem dd_197_45 : decode (mB 197) 45 = .ok (.getfield 144, 3) := by decide +kernel
theorem dd_197_48 : decode (mB 197) 48 = .ok (.iload_n 3, 1) := by decide +kernel
theorem dd_197_49 : decode (mB 197) 49 = .ok (.iconst 1, 1) := by decide +kernel
theorem dd_197_50 : decode (mB 197) 50 = .ok (.isub, 1) := by decide +kernel
theorem dd_197_51 : decode (mB 197) 51 = .ok (.iaload, 1) := by decide +kernel
theorem dd_197_52 : decode (mB 197) 52 = .ok (.invokevirtual 415, 3) := by decide +kernel
theorem dd_197_55 : decode (mB 197) 55 = .ok (.ifCond .eq 23, 3) := by decide +kernel
theorem dd_197_58 : decode (mB 197) 58 = .ok (.aload_n 0, 1) := by decide +kernel
theorem dd_197_59 : decode (mB 197) 59 = .ok (.getfield 144, 3) := by decide +kernel
theorem dd_197_62 : decode (mB 197) 62 = .ok (.iload_n 3, 1) := by decide +kernel
theorem dd_197_63 : decode (mB 197) 63 = .ok (.aload_n 0, 1) := by decide +kernel
theorem dd_197_64 : decode (mB 197) 64 = .ok (.getfield 144, 3) := by decide +kernel
theorem dd_197_67 : decode (mB 197) 67 = .ok (.iload_n 3, 1) := by decide +kernel
theorem dd_197_68 : decode (mB 197) 68 = .ok (.iconst 1, 1) := by decide +kernel
theorem dd_197_69 : decode (mB 197) 69 = .ok (.isub, 1) := by decide +kernel
theorem dd_197_70 : decode (mB 197) 70 = .ok (.iaload, 1) := by decide +kernel
theorem dd_197_71 : decode (mB 197) 71 = .ok (.iastore, 1) := by decide +kernel
theorem dd_197_72 : decode (mB 197) 72 = .ok (.iinc 3 (-1), 3) := by decide +kernel
theorem dd_197_75 : decode (mB 197) 75 = .ok (.goto (-37), 3) := by decide +kernel
theorem dd_197_78 : decode (mB 197) 78 = .ok (.aload_n 0, 1) := by decide +kernel
theorem dd_197_79 : decode (mB 197) 79 = .ok (.getfield 144, 3) := by decide +kernel
theorem dd_197_82 : decode (mB 197) 82 = .ok (.iload_n 3, 1) := by decide +kernel
theorem dd_197_83 : decode (mB 197) 83 = .ok (.iload_n 2, 1) := by decide +kernel
theorem dd_197_84 : decode (mB 197) 84 = .ok (.iastore, 1) := by decide +kernel
theorem dd_197_85 : decode (mB 197) 85 = .ok (.aload_n 0, 1) := by decide +kernel
theorem dd_197_86 : decode (mB 197) 86 = .ok (.dup, 1) := by decide +kernel
theorem dd_197_87 : decode (mB 197) 87 = .ok (.getfield 437, 3) := by decide +kernel
theorem dd_197_90 : decode (mB 197) 90 = .ok (.iconst 1, 1) := by decide +kernel
theorem dd_197_91 : decode (mB 197) 91 = .ok (.iadd, 1) := by decide +kernel
theorem dd_197_92 : decode (mB 197) 92 = .ok (.putfield 437, 3) := by decide +kernel
theorem dd_197_95 : decode (mB 197) 95 = .ok (.iinc 2 1, 3) := by decide +kernel
theorem dd_197_98 : decode (mB 197) 98 = .ok (.goto (-91), 3) := by decide +kernel
theorem dd_197_101 : decode (mB 197) 101 = .ok (.return_, 1) := by decide +kernel
theorem dd_198_0 : decode (mB 198) 0 = .ok (.aload_n 0, 1) := by decide +kernel
theorem dd_198_1 : decode (mB 198) 1 = .ok (.iload_n 1, 1) := by decide +kernel
theorem dd_198_2 : decode (mB 198) 2 = .ok (.invokevirtual 375, 3) := by decide +kernel
theorem dd_198_5 : decode (mB 198) 5 = .ok (.ifCond .eq 27, 3) := by decide +kernel
theorem dd_198_8 : decode (mB 198) 8 = .ok (.aload_n 0, 1) := by decide +kernel
theorem dd_198_9 : decode (mB 198) 9 = .ok (.getfield 90, 3) := by decide +kernel
theorem dd_198_12 : decode (mB 198) 12 = .ok (.iload_n 1, 1) := by decide +kernel
theorem dd_198_13 : decode (mB 198) 13 = .ok (.iaload, 1) := by decide +kernel
theorem dd_198_14 : decode (mB 198) 14 = .ok (.iconst 2, 1) := by decide +kernel
theorem dd_198_15 : decode (mB 198) 15 = .ok (.if_icmp .ne 13, 3) := by decide +kernel
theorem dd_198_18 : decode (mB 198) 18 = .ok (.aload_n 0, 1) := by decide +kernel
theorem dd_198_19 : decode (mB 198) 19 = .ok (.getfield 93, 3) := by decide +kernel
theorem dd_198_22 : decode (mB 198) 22 = .ok (.iload_n 1, 1) := by decide +kernel
theorem dd_198_23 : decode (mB 198) 23 = .ok (.iaload, 1) := by decide +kernel
theorem dd_198_24 : decode (mB 198) 24 = .ok (.iload_n 2, 1) := by decide +kernel
theorem dd_198_25 : decode (mB 198) 25 = .ok (.if_icmp .gt 7, 3) := by decide +kernel
theorem dd_198_28 : decode (mB 198) 28 = .ok (.iconst 1, 1) := by decide +kernel
theorem dd_198_29 : decode (mB 198) 29 = .ok (.goto 4, 3) := by decide +kernel
theorem dd_198_32 : decode (mB 198) 32 = .ok (.iconst 0, 1) := by decide +kernel
theorem dd_198_33 : decode (mB 198) 33 = .ok (.ireturn, 1) := by decide +kernel
theorem dd_199_0 : decode (mB 199) 0 = .ok (.aload_n 0, 1) := by decide +kernel
theorem dd_199_1 : decode (mB 199) 1 = .ok (.getfield 105, 3) := by decide +kernel
theorem dd_199_4 : decode (mB 199) 4 = .ok (.iload_n 1, 1) := by decide +kernel
theorem dd_199_5 : decode (mB 199) 5 = .ok (.iaload, 1) := by decide +kernel
theorem dd_199_6 : decode (mB 199) 6 = .ok (.ifCond .ne 72, 3) := by decide +kernel
theorem dd_199_9 : decode (mB 199) 9 = .ok (.aload_n 0, 1) := by decide +kernel
theorem dd_199_10 : decode (mB 199) 10 = .ok (.iload_n 1, 1) := by decide +kernel
theorem dd_199_11 : decode (mB 199) 11 = .ok (.iload_n 2, 1) := by decide +kernel
theorem dd_199_12 : decode (mB 199) 12 = .ok (.iconst 1, 1) := by decide +kernel
theorem dd_199_13 : decode (mB 199) 13 = .ok (.invokevirtual 424, 3) := by decide +kernel
theorem dd_199_16 : decode (mB 199) 16 = .ok (.istore_n 3, 1) := by decide +kernel
theorem dd_199_17 : decode (mB 199) 17 = .ok (.iload_n 3, 1) := by decide +kernel
theorem dd_199_18 : decode (mB 199) 18 = .ok (.ifCond .ge 22, 3) := by decide +kernel
theorem dd_199_21 : decode (mB 199) 21 = .ok (.aload_n 0, 1) := by decide +kernel
theorem dd_199_22 : decode (mB 199) 22 = .ok (.getfield 78, 3) := by decide +kernel
theorem dd_199_25 : decode (mB 199) 25 = .ok (.iconst 2, 1) := by decide +kernel
theorem dd_199_26 : decode (mB 199) 26 = .ok (.iaload, 1) := by decide +kernel
theorem dd_199_27 : decode (mB 199) 27 = .ok (.ifCond .le 13, 3) := by decide +kernel
theorem dd_199_30 : decode (mB 199) 30 = .ok (.aload_n 0, 1) := by decide +kernel
theorem dd_199_31 : decode (mB 199) 31 = .ok (.iload_n 1, 1) := by decide +kernel
theorem dd_199_32 : decode (mB 199) 32 = .ok (.iload_n 2, 1) := by decide +kernel
theorem dd_199_33 : decode (mB 199) 33 = .ok (.iconst 0, 1) := by decide +kernel
theorem dd_199_34 : decode (mB 199) 34 = .ok (.invokevirtual 424, 3) := by decide +kernel
theorem dd_199_37 : decode (mB 199) 37 = .ok (.goto 4, 3) := by decide +kernel
theorem dd_199_40 : decode (mB 199) 40 = .ok (.iload_n 3, 1) := by decide +kernel
theorem dd_199_41 : decode (mB 199) 41 = .ok (.istore_n 3, 1) := by decide +kernel
theorem dd_199_42 : decode (mB 199) 42 = .ok (.iload_n 3, 1) := by decide +kernel
theorem dd_199_43 : decode (mB 199) 43 = .ok (.ifCond .ge 5, 3) := by decide +kernel
theorem dd_199_46 : decode (mB 199) 46 = .ok (.iconst 0, 1) := by decide +kernel
theorem dd_199_47 : decode (mB 199) 47 = .ok (.ireturn, 1) := by decide +kernel
theorem dd_199_48 : decode (mB 199) 48 = .ok (.aload_n 0, 1) := by decide +kernel
theorem dd_199_49 : decode (mB 199) 49 = .ok (.iload_n 1, 1) := by decide +kernel
theorem dd_199_50 : decode (mB 199) 50 = .ok (.iload_n 3, 1) := by decide +kernel
theorem dd_199_51 : decode (mB 199) 51 = .ok (.invokevirtual 428, 3) := by decide +kernel
theorem dd_199_54 : decode (mB 199) 54 = .ok (.aload_n 0, 1) := by decide +kernel
theorem dd_199_55 : decode (mB 199) 55 = .ok (.getfield 105, 3) := by decide +kernel
theorem dd_199_58 : decode (mB 199) 58 = .ok (.iload_n 1, 1) := by decide +kernel
theorem dd_199_59 : decode (mB 199) 59 = .ok (.iconst 1, 1) := by decide +kernel
theorem dd_199_60 : decode (mB 199) 60 = .ok (.iastore, 1) := by decide +kernel
theorem dd_199_61 : decode (mB 199) 61 = .ok (.aload_n 0, 1) := by decide +kernel
theorem dd_199_62 : decode (mB 199) 62 = .ok (.iload_n 1, 1) := by decide +kernel
theorem dd_199_63 : decode (mB 199) 63 = .ok (.iload_n 2, 1) := by decide +kernel
theorem dd_199_64 : decode (mB 199) 64 = .ok (.invokevirtual 431, 3) := by decide +kernel
theorem dd_199_67 : decode (mB 199) 67 = .ok (.ifCond .eq 9, 3) := by decide +kernel
theorem dd_199_70 : decode (mB 199) 70 = .ok (.aload_n 0, 1) := by decide +kernel
theorem dd_199_71 : decode (mB 199) 71 = .ok (.iload_n 1, 1) := by decide +kernel
theorem dd_199_72 : decode (mB 199) 72 = .ok (.iload_n 2, 1) := by decide +kernel
theorem dd_199_73 : decode (mB 199) 73 = .ok (.invokevirtual 434, 3) := by decide +kernel
theorem dd_199_76 : decode (mB 199) 76 = .ok (.iconst 1, 1) := by decide +kernel
theorem dd_199_77 : decode (mB 199) 77 = .ok (.ireturn, 1) := by decide +kernel
theorem dd_199_78 : decode (mB 199) 78 = .ok (.aload_n 0, 1) := by decide +kernel
theorem dd_199_79 : decode (mB 199) 79 = .ok (.aload_n 0, 1) := by decide +kernel
theorem dd_199_80 : decode (mB 199) 80 = .ok (.getfield 126, 3) := by decide +kernel
theorem dd_199_83 : decode (mB 199) 83 = .ok (.iconst 3, 1) := by decide +kernel
theorem dd_199_84 : decode (mB 199) 84 = .ok (.iload_n 1, 1) := by decide +kernel
theorem dd_199_85 : decode (mB 199) 85 = .ok (.imul, 1) := by decide +kernel
theorem dd_199_86 : decode (mB 199) 86 = .ok (.aload_n 0, 1) := by decide +kernel
theorem dd_199_87 : decode (mB 199) 87 = .ok (.getfield 117, 3) := by decide +kernel
theorem dd_199_90 : decode (mB 199) 90 = .ok (.iload_n 1, 1) := by decide +kernel
theorem dd_199_91 : decode (mB 199) 91 = .ok (.iaload, 1) := by decide +kernel
theorem dd_199_92 : decode (mB 199) 92 = .ok (.iadd, 1) := by decide +kernel
theorem dd_199_93 : decode (mB 199) 93 = .ok (.iaload, 1) := by decide +kernel
theorem dd_199_94 : decode (mB 199) 94 = .ok (.iload_n 2, 1) := by decide +kernel
theorem dd_199_95 : decode (mB 199) 95 = .ok (.invokevirtual 421, 3) := by decide +kernel
theorem dd_199_98 : decode (mB 199) 98 = .ok (.ifCond .eq 20, 3) := by decide +kernel
theorem dd_199_101 : decode (mB 199) 101 = .ok (.aload_n 0, 1) := by decide +kernel
theorem dd_199_102 : decode (mB 199) 102 = .ok (.iload_n 1, 1) := by decide +kernel
theorem dd_199_103 : decode (mB 199) 103 = .ok (.iload_n 2, 1) := by decide +kernel
theorem dd_199_104 : decode (mB 199) 104 = .ok (.invokevirtual 431, 3) := by decide +kernel
theorem dd_199_107 : decode (mB 199) 107 = .ok (.ifCond .eq 9, 3) := by decide +kernel
theorem dd_199_110 : decode (mB 199) 110 = .ok (.aload_n 0, 1) := by decide +kernel
theorem dd_199_111 : decode (mB 199) 111 = .ok (.iload_n 1, 1) := by decide +kernel
theorem dd_199_112 : decode (mB 199) 112 = .ok (.iload_n 2, 1) := by decide +kernel
theorem dd_199_113 : decode (mB 199) 113 = .ok (.invokevirtual 434, 3) := by decide +kernel
theorem dd_199_116 : decode (mB 199) 116 = .ok (.iconst 1, 1) := by decide +kernel
theorem dd_199_117 : decode (mB 199) 117 = .ok (.ireturn, 1) := by decide +kernel
theorem dd_199_118 : decode (mB 199) 118 = .ok (.iload_n 2, 1) := by decide +kernel
theorem dd_199_119 : decode (mB 199) 119 = .ok (.aload_n 0, 1) := by decide +kernel
theorem dd_199_120 : decode (mB 199) 120 = .ok (.getfield 120, 3) := by decide +kernel
theorem dd_199_123 : decode (mB 199) 123 = .ok (.iload_n 1, 1) := by decide +kernel
theorem dd_199_124 : decode (mB 199) 124 = .ok (.iaload, 1) := by decide +kernel
theorem dd_199_125 : decode (mB 199) 125 = .ok (.isub, 1) := by decide +kernel
theorem dd_199_126 : decode (mB 199) 126 = .ok (.aload_n 0, 1) := by decide +kernel
theorem dd_199_127 : decode (mB 199) 127 = .ok (.getfield 78, 3) := by decide +kernel
theorem dd_199_130 : decode (mB 199) 130 = .ok (.iconst 2, 1) := by decide +kernel
theorem dd_199_131 : decode (mB 199) 131 = .ok (.iaload, 1) := by decide +kernel
theorem dd_199_132 : decode (mB 199) 132 = .ok (.if_icmp .lt 8, 3) := by decide +kernel
theorem dd_199_135 : decode (mB 199) 135 = .ok (.aload_n 0, 1) := by decide +kernel
theorem dd_199_136 : decode (mB 199) 136 = .ok (.iload_n 1, 1) := by decide +kernel
theorem dd_199_137 : decode (mB 199) 137 = .ok (.invokevirtual 403, 3) := by decide +kernel
theorem dd_199_140 : decode (mB 199) 140 = .ok (.iconst 0, 1) := by decide +kernel
theorem dd_199_141 : decode (mB 199) 141 = .ok (.ireturn, 1) := by decide +kernel
theorem dd_200_0 : decode (mB 200) 0 = .ok (.aload_n 0, 1) := by decide +kernel
theorem dd_200_1 : decode (mB 200) 1 = .ok (.aload_n 0, 1) := by decide +kernel
theorem dd_200_2 : decode (mB 200) 2 = .ok (.getfield 81, 3) := by decide +kernel
theorem dd_200_5 : decode (mB 200) 5 = .ok (.iload_n 1, 1) := by decide +kernel
theorem dd_200_6 : decode (mB 200) 6 = .ok (.iaload, 1) := by decide +kernel
theorem dd_200_7 : decode (mB 200) 7 = .ok (.aload_n 0, 1) := by decide +kernel
theorem dd_200_8 : decode (mB 200) 8 = .ok (.getfield 84, 3) := by decide +kernel
theorem dd_200_11 : decode (mB 200) 11 = .ok (.iload_n 1, 1) := by decide +kernel
theorem dd_200_12 : decode (mB 200) 12 = .ok (.iaload, 1) := by decide +kernel
theorem dd_200_13 : decode (mB 200) 13 = .ok (.aload_n 0, 1) := by decide +kernel
theorem dd_200_14 : decode (mB 200) 14 = .ok (.getfield 78, 3) := by decide +kernel
theorem dd_200_17 : decode (mB 200) 17 = .ok (.iconst 1, 1) := by decide +kernel
theorem dd_200_18 : decode (mB 200) 18 = .ok (.iaload, 1) := by decide +kernel
theorem dd_200_19 : decode (mB 200) 19 = .ok (.invokevirtual 262, 3) := by decide +kernel
theorem dd_200_22 : decode (mB 200) 22 = .ok (.istore 4, 2) := by decide +kernel
theorem dd_200_24 : decode (mB 200) 24 = .ok (.aload_n 0, 1) := by decide +kernel
theorem dd_200_25 : decode (mB 200) 25 = .ok (.aload_n 0, 1) := by decide +kernel
theorem dd_200_26 : decode (mB 200) 26 = .ok (.getfield 81, 3) := by decide +kernel
theorem dd_200_29 : decode (mB 200) 29 = .ok (.iload_n 1, 1) := by decide +kernel
theorem dd_200_30 : decode (mB 200) 30 = .ok (.iaload, 1) := by decide +kernel
theorem dd_200_31 : decode (mB 200) 31 = .ok (.aload_n 0, 1) := by decide +kernel
theorem dd_200_32 : decode (mB 200) 32 = .ok (.getfield 84, 3) := by decide +kernel
theorem dd_200_35 : decode (mB 200) 35 = .ok (.iload_n 1, 1) := by decide +kernel
theorem dd_200_36 : decode (mB 200) 36 = .ok (.iaload, 1) := by decide +kernel
theorem dd_200_37 : decode (mB 200) 37 = .ok (.invokevirtual 259, 3) := by decide +kernel
theorem dd_200_40 : decode (mB 200) 40 = .ok (.istore 5, 2) := by decide +kernel
theorem dd_200_42 : decode (mB 200) 42 = .ok (.iload 5, 2) := by decide +kernel
theorem dd_200_44 : decode (mB 200) 44 = .ok (.iload 4, 2) := by decide +kernel
theorem dd_200_46 : decode (mB 200) 46 = .ok (.if_icmp .ge 99, 3) := by decide +kernel
theorem dd_200_49 : decode (mB 200) 49 = .ok (.aload_n 0, 1) := by decide +kernel
theorem dd_200_50 : decode (mB 200) 50 = .ok (.aload_n 0, 1) := by decide +kernel
theorem dd_200_51 : decode (mB 200) 51 = .ok (.iload 5, 2) := by decide +kernel
theorem dd_200_53 : decode (mB 200) 53 = .ok (.iconst 0, 1) := by decide +kernel
theorem dd_200_54 : decode (mB 200) 54 = .ok (.invokevirtual 266, 3) := by decide +kernel
theorem dd_200_57 : decode (mB 200) 57 = .ok (.iload_n 2, 1) := by decide +kernel
theorem dd_200_58 : decode (mB 200) 58 = .ok (.invokevirtual 421, 3) := by decide +kernel
theorem dd_200_61 : decode (mB 200) 61 = .ok (.istore 6, 2) := by decide +kernel
theorem dd_200_63 : decode (mB 200) 63 = .ok (.iconst 1, 1) := by decide +kernel
theorem dd_200_64 : decode (mB 200) 64 = .ok (.istore 7, 2) := by decide +kernel
theorem dd_200_66 : decode (mB 200) 66 = .ok (.iload 7, 2) := by decide +kernel
theorem dd_200_68 : decode (mB 200) 68 = .ok (.aload_n 0, 1) := by decide +kernel
theorem dd_200_69 : decode (mB 200) 69 = .ok (.iload 5, 2) := by decide +kernel
theorem dd_200_71 : decode (mB 200) 71 = .ok (.invokevirtual 221, 3) := by decide +kernel
theorem dd_200_74 : decode (mB 200) 74 = .ok (.if_icmp .ge 57, 3) := by decide +kernel
theorem dd_200_77 : decode (mB 200) 77 = .ok (.iload 6, 2) := by decide +kernel
theorem dd_200_79 : decode (mB 200) 79 = .ok (.ifCond .eq 52, 3) := by decide +kernel
theorem dd_200_82 : decode (mB 200) 82 = .ok (.iload_n 3, 1) := by decide +kernel
theorem dd_200_83 : decode (mB 200) 83 = .ok (.ifCond .eq 19, 3) := by decide +kernel
theorem dd_200_86 : decode (mB 200) 86 = .ok (.aload_n 0, 1) := by decide +kernel
theorem dd_200_87 : decode (mB 200) 87 = .ok (.aload_n 0, 1) := by decide +kernel
theorem dd_200_88 : decode (mB 200) 88 = .ok (.iload 5, 2) := by decide +kernel
theorem dd_200_90 : decode (mB 200) 90 = .ok (.iload 7, 2) := by decide +kernel
theorem dd_200_92 : decode (mB 200) 92 = .ok (.invokevirtual 266, 3) := by decide +kernel
theorem dd_200_95 : decode (mB 200) 95 = .ok (.iload_n 2, 1) := by decide +kernel
theorem dd_200_96 : decode (mB 200) 96 = .ok (.invokevirtual 421, 3) := by decide +kernel
theorem dd_200_99 : decode (mB 200) 99 = .ok (.goto 24, 3) := by decide +kernel
theorem dd_200_102 : decode (mB 200) 102 = .ok (.aload_n 0, 1) := by decide +kernel
theorem dd_200_103 : decode (mB 200) 103 = .ok (.aload_n 0, 1) := by decide +kernel
theorem dd_200_104 : decode (mB 200) 104 = .ok (.iload 5, 2) := by decide +kernel
theorem dd_200_106 : decode (mB 200) 106 = .ok (.iload 7, 2) := by decide +kernel
theorem dd_200_108 : decode (mB 200) 108 = .ok (.invokevirtual 266, 3) := by decide +kernel
theorem dd_200_111 : decode (mB 200) 111 = .ok (.iload_n 2, 1) := by decide +kernel
theorem dd_200_112 : decode (mB 200) 112 = .ok (.invokevirtual 400, 3) := by decide +kernel
theorem dd_200_115 : decode (mB 200) 115 = .ok (.ifCond .ge 7, 3) := by decide +kernel
theorem dd_200_118 : decode (mB 200) 118 = .ok (.iconst 1, 1) := by decide +kernel
theorem dd_200_119 : decode (mB 200) 119 = .ok (.goto 4, 3) := by decide +kernel
theorem dd_200_122 : decode (mB 200) 122 = .ok (.iconst 0, 1) := by decide +kernel
theorem dd_200_123 : decode (mB 200) 123 = .ok (.istore 6, 2) := by decide +kernel
theorem dd_200_125 : decode (mB 200) 125 = .ok (.iinc 7 1, 3) := by decide +kernel
theorem dd_200_128 : decode (mB 200) 128 = .ok (.goto (-62), 3) := by decide +kernel
theorem dd_200_131 : decode (mB 200) 131 = .ok (.iload 6, 2) := by decide +kernel
theorem dd_200_133 : decode (mB 200) 133 = .ok (.ifCond .eq 6, 3) := by decide +kernel
theorem dd_200_136 : decode (mB 200) 136 = .ok (.iload 5, 2) := by decide +kernel
theorem dd_200_138 : decode (mB 200) 138 = .ok (.ireturn, 1) := by decide +kernel
theorem dd_200_139 : decode (mB 200) 139 = .ok (.iinc 5 1, 3) := by decide +kernel
theorem dd_200_142 : decode (mB 200) 142 = .ok (.goto (-100), 3) := by decide +kernel
theorem dd_200_145 : decode (mB 200) 145 = .ok (.iconst (-1), 1) := by decide +kernel
theorem dd_200_146 : decode (mB 200) 146 = .ok (.ireturn, 1) := by decide +kernel
theorem dd_201_0 : decode (mB 201) 0 = .ok (.aload_n 0, 1) := by decide +kernel
theorem dd_201_1 : decode (mB 201) 1 = .ok (.getfield 129, 3) := by decide +kernel
theorem dd_201_4 : decode (mB 201) 4 = .ok (.iload_n 1, 1) := by decide +kernel
theorem dd_201_5 : decode (mB 201) 5 = .ok (.iaload, 1) := by decide +kernel
theorem dd_201_6 : decode (mB 201) 6 = .ok (.ifCond .ge 16, 3) := by decide +kernel
theorem dd_201_9 : decode (mB 201) 9 = .ok (.aload_n 0, 1) := by decide +kernel
theorem dd_201_10 : decode (mB 201) 10 = .ok (.iload_n 1, 1) := by decide +kernel
theorem dd_201_11 : decode (mB 201) 11 = .ok (.iload_n 2, 1) := by decide +kernel
theorem dd_201_12 : decode (mB 201) 12 = .ok (.invokevirtual 400, 3) := by decide +kernel
theorem dd_201_15 : decode (mB 201) 15 = .ok (.ifCond .ge 7, 3) := by decide +kernel
theorem dd_201_18 : decode (mB 201) 18 = .ok (.iconst 1, 1) := by decide +kernel
theorem dd_201_19 : decode (mB 201) 19 = .ok (.goto 4, 3) := by decide +kernel
theorem dd_201_22 : decode (mB 201) 22 = .ok (.iconst 0, 1) := by decide +kernel
theorem dd_201_23 : decode (mB 201) 23 = .ok (.ireturn, 1) := by decide +kernel
theorem dd_202_0 : decode (mB 202) 0 = .ok (.aload_n 0, 1) := by decide +kernel
theorem dd_202_1 : decode (mB 202) 1 = .ok (.getfield 123, 3) := by decide +kernel
theorem dd_202_4 : decode (mB 202) 4 = .ok (.iload_n 1, 1) := by decide +kernel
theorem dd_202_5 : decode (mB 202) 5 = .ok (.aload_n 0, 1) := by decide +kernel
theorem dd_202_6 : decode (mB 202) 6 = .ok (.iload_n 2, 1) := by decide +kernel
theorem dd_202_7 : decode (mB 202) 7 = .ok (.invokevirtual 221, 3) := by decide +kernel
theorem dd_202_10 : decode (mB 202) 10 = .ok (.iastore, 1) := by decide +kernel
theorem dd_202_11 : decode (mB 202) 11 = .ok (.iconst 0, 1) := by decide +kernel
theorem dd_202_12 : decode (mB 202) 12 = .ok (.istore_n 3, 1) := by decide +kernel
theorem dd_202_13 : decode (mB 202) 13 = .ok (.iload_n 3, 1) := by decide +kernel
theorem dd_202_14 : decode (mB 202) 14 = .ok (.aload_n 0, 1) := by decide +kernel
theorem dd_202_15 : decode (mB 202) 15 = .ok (.getfield 123, 3) := by decide +kernel
theorem dd_202_18 : decode (mB 202) 18 = .ok (.iload_n 1, 1) := by decide +kernel
theorem dd_202_19 : decode (mB 202) 19 = .ok (.iaload, 1) := by decide +kernel
theorem dd_202_20 : decode (mB 202) 20 = .ok (.if_icmp .ge 25, 3) := by decide +kernel
theorem dd_202_23 : decode (mB 202) 23 = .ok (.aload_n 0, 1) := by decide +kernel
theorem dd_202_24 : decode (mB 202) 24 = .ok (.getfield 126, 3) := by decide +kernel
theorem dd_202_27 : decode (mB 202) 27 = .ok (.iconst 3, 1) := by decide +kernel
theorem dd_202_28 : decode (mB 202) 28 = .ok (.iload_n 1, 1) := by decide +kernel
theorem dd_202_29 : decode (mB 202) 29 = .ok (.imul, 1) := by decide +kernel
theorem dd_202_30 : decode (mB 202) 30 = .ok (.iload_n 3, 1) := by decide +kernel
theorem dd_202_31 : decode (mB 202) 31 = .ok (.iadd, 1) := by decide +kernel
theorem dd_202_32 : decode (mB 202) 32 = .ok (.aload_n 0, 1) := by decide +kernel
theorem dd_202_33 : decode (mB 202) 33 = .ok (.iload_n 2, 1) := by decide +kernel
theorem dd_202_34 : decode (mB 202) 34 = .ok (.iload_n 3, 1) := by decide +kernel
theorem dd_202_35 : decode (mB 202) 35 = .ok (.invokevirtual 266, 3) := by decide +kernel
theorem dd_202_38 : decode (mB 202) 38 = .ok (.iastore, 1) := by decide +kernel
theorem dd_202_39 : decode (mB 202) 39 = .ok (.iinc 3 1, 3) := by decide +kernel
theorem dd_202_42 : decode (mB 202) 42 = .ok (.goto (-29), 3) := by decide +kernel
theorem dd_202_45 : decode (mB 202) 45 = .ok (.return_, 1) := by decide +kernel
theorem dd_203_0 : decode (mB 203) 0 = .ok (.aload_n 0, 1) := by decide +kernel
theorem dd_203_1 : decode (mB 203) 1 = .ok (.getfield 117, 3) := by decide +kernel
theorem dd_203_4 : decode (mB 203) 4 = .ok (.iload_n 1, 1) := by decide +kernel
theorem dd_203_5 : decode (mB 203) 5 = .ok (.iaload, 1) := by decide +kernel
theorem dd_203_6 : decode (mB 203) 6 = .ok (.aload_n 0, 1) := by decide +kernel
theorem dd_203_7 : decode (mB 203) 7 = .ok (.getfield 123, 3) := by decide +kernel
theorem dd_203_10 : decode (mB 203) 10 = .ok (.iload_n 1, 1) := by decide +kernel
theorem dd_203_11 : decode (mB 203) 11 = .ok (.iaload, 1) := by decide +kernel
theorem dd_203_12 : decode (mB 203) 12 = .ok (.if_icmp .ge 60, 3) := by decide +kernel
theorem dd_203_15 : decode (mB 203) 15 = .ok (.aload_n 0, 1) := by decide +kernel
theorem dd_203_16 : decode (mB 203) 16 = .ok (.aload_n 0, 1) := by decide +kernel
theorem dd_203_17 : decode (mB 203) 17 = .ok (.getfield 126, 3) := by decide +kernel
theorem dd_203_20 : decode (mB 203) 20 = .ok (.iconst 3, 1) := by decide +kernel
theorem dd_203_21 : decode (mB 203) 21 = .ok (.iload_n 1, 1) := by decide +kernel
theorem dd_203_22 : decode (mB 203) 22 = .ok (.imul, 1) := by decide +kernel
theorem dd_203_23 : decode (mB 203) 23 = .ok (.aload_n 0, 1) := by decide +kernel
theorem dd_203_24 : decode (mB 203) 24 = .ok (.getfield 117, 3) := by decide +kernel
theorem dd_203_27 : decode (mB 203) 27 = .ok (.iload_n 1, 1) := by decide +kernel
theorem dd_203_28 : decode (mB 203) 28 = .ok (.iaload, 1) := by decide +kernel
theorem dd_203_29 : decode (mB 203) 29 = .ok (.iadd, 1) := by decide +kernel
theorem dd_203_30 : decode (mB 203) 30 = .ok (.iaload, 1) := by decide +kernel
theorem dd_203_31 : decode (mB 203) 31 = .ok (.iload_n 2, 1) := by decide +kernel
theorem dd_203_32 : decode (mB 203) 32 = .ok (.invokevirtual 421, 3) := by decide +kernel
theorem dd_203_35 : decode (mB 203) 35 = .ok (.ifCond .eq 37, 3) := by decide +kernel
theorem dd_203_38 : decode (mB 203) 38 = .ok (.aload_n 0, 1) := by decide +kernel
theorem dd_203_39 : decode (mB 203) 39 = .ok (.getfield 129, 3) := by decide +kernel
theorem dd_203_42 : decode (mB 203) 42 = .ok (.aload_n 0, 1) := by decide +kernel
theorem dd_203_43 : decode (mB 203) 43 = .ok (.getfield 126, 3) := by decide +kernel
theorem dd_203_46 : decode (mB 203) 46 = .ok (.iconst 3, 1) := by decide +kernel
theorem dd_203_47 : decode (mB 203) 47 = .ok (.iload_n 1, 1) := by decide +kernel
theorem dd_203_48 : decode (mB 203) 48 = .ok (.imul, 1) := by decide +kernel
theorem dd_203_49 : decode (mB 203) 49 = .ok (.aload_n 0, 1) := by decide +kernel
theorem dd_203_50 : decode (mB 203) 50 = .ok (.getfield 117, 3) := by decide +kernel
theorem dd_203_53 : decode (mB 203) 53 = .ok (.iload_n 1, 1) := by decide +kernel
theorem dd_203_54 : decode (mB 203) 54 = .ok (.iaload, 1) := by decide +kernel
theorem dd_203_55 : decode (mB 203) 55 = .ok (.iadd, 1) := by decide +kernel
theorem dd_203_56 : decode (mB 203) 56 = .ok (.iaload, 1) := by decide +kernel
theorem dd_203_57 : decode (mB 203) 57 = .ok (.iload_n 1, 1) := by decide +kernel
theorem dd_203_58 : decode (mB 203) 58 = .ok (.iastore, 1) := by decide +kernel
theorem dd_203_59 : decode (mB 203) 59 = .ok (.aload_n 0, 1) := by decide +kernel
theorem dd_203_60 : decode (mB 203) 60 = .ok (.getfield 117, 3) := by decide +kernel
theorem dd_203_63 : decode (mB 203) 63 = .ok (.iload_n 1, 1) := by decide +kernel
theorem dd_203_64 : decode (mB 203) 64 = .ok (.dup2, 1) := by decide +kernel
theorem dd_203_65 : decode (mB 203) 65 = .ok (.iaload, 1) := by decide +kernel
theorem dd_203_66 : decode (mB 203) 66 = .ok (.iconst 1, 1) := by decide +kernel
theorem dd_203_67 : decode (mB 203) 67 = .ok (.iadd, 1) := by decide +kernel
theorem dd_203_68 : decode (mB 203) 68 = .ok (.iastore, 1) := by decide +kernel
theorem dd_203_69 : decode (mB 203) 69 = .ok (.goto (-69), 3) := by decide +kernel
theorem dd_203_72 : decode (mB 203) 72 = .ok (.aload_n 0, 1) := by decide +kernel
theorem dd_203_73 : decode (mB 203) 73 = .ok (.getfield 120, 3) := by decide +kernel
theorem dd_203_76 : decode (mB 203) 76 = .ok (.iload_n 1, 1) := by decide +kernel
theorem dd_203_77 : decode (mB 203) 77 = .ok (.iload_n 2, 1) := by decide +kernel
theorem dd_203_78 : decode (mB 203) 78 = .ok (.iastore, 1) := by decide +kernel
theorem dd_203_79 : decode (mB 203) 79 = .ok (.aload_n 0, 1) := by decide +kernel
theorem dd_203_80 : decode (mB 203) 80 = .ok (.getfield 117, 3) := by decide +kernel
theorem dd_203_83 : decode (mB 203) 83 = .ok (.iload_n 1, 1) := by decide +kernel
theorem dd_203_84 : decode (mB 203) 84 = .ok (.iaload, 1) := by decide +kernel
theorem dd_203_85 : decode (mB 203) 85 = .ok (.aload_n 0, 1) := by decide +kernel
theorem dd_203_86 : decode (mB 203) 86 = .ok (.getfield 123, 3) := by decide +kernel
theorem dd_203_89 : decode (mB 203) 89 = .ok (.iload_n 1, 1) := by decide +kernel
theorem dd_203_90 : decode (mB 203) 90 = .ok (.iaload, 1) := by decide +kernel
theorem dd_203_91 : decode (mB 203) 91 = .ok (.if_icmp .ne 7, 3) := by decide +kernel
theorem dd_203_94 : decode (mB 203) 94 = .ok (.iconst 1, 1) := by decide +kernel
theorem dd_203_95 : decode (mB 203) 95 = .ok (.goto 4, 3) := by decide +kernel
theorem dd_203_98 : decode (mB 203) 98 = .ok (.iconst 0, 1) := by decide +kernel
theorem dd_203_99 : decode (mB 203) 99 = .ok (.ireturn, 1) := by decide +kernel
theorem dd_204_0 : decode (mB 204) 0 = .ok (.aload_n 0, 1) := by decide +kernel
theorem dd_204_1 : decode (mB 204) 1 = .ok (.getfield 105, 3) := by decide +kernel
theorem dd_204_4 : decode (mB 204) 4 = .ok (.iload_n 1, 1) := by decide +kernel
theorem dd_204_5 : decode (mB 204) 5 = .ok (.iconst 2, 1) := by decide +kernel
theorem dd_204_6 : decode (mB 204) 6 = .ok (.iastore, 1) := by decide +kernel
theorem dd_204_7 : decode (mB 204) 7 = .ok (.aload_n 0, 1) := by decide +kernel
theorem dd_204_8 : decode (mB 204) 8 = .ok (.getfield 108, 3) := by decide +kernel
theorem dd_204_11 : decode (mB 204) 11 = .ok (.iload_n 1, 1) := by decide +kernel
theorem dd_204_12 : decode (mB 204) 12 = .ok (.iload_n 2, 1) := by decide +kernel
theorem dd_204_13 : decode (mB 204) 13 = .ok (.iastore, 1) := by decide +kernel
theorem dd_204_14 : decode (mB 204) 14 = .ok (.return_, 1) := by decide +kernel
theorem dd_205_0 : decode (mB 205) 0 = .ok (.iconst 0, 1) := by decide +kernel
theorem dd_205_1 : decode (mB 205) 1 = .ok (.istore_n 2, 1) := by decide +kernel
theorem dd_205_2 : decode (mB 205) 2 = .ok (.iload_n 2, 1) := by decide +kernel
theorem dd_205_3 : decode (mB 205) 3 = .ok (.bipush 20, 2) := by decide +kernel
theorem dd_205_5 : decode (mB 205) 5 = .ok (.if_icmp .ge 16, 3) := by decide +kernel
theorem dd_205_8 : decode (mB 205) 8 = .ok (.aload_n 0, 1) := by decide +kernel
theorem dd_205_9 : decode (mB 205) 9 = .ok (.getfield 150, 3) := by decide +kernel
theorem dd_205_12 : decode (mB 205) 12 = .ok (.iload_n 2, 1) := by decide +kernel
theorem dd_205_13 : decode (mB 205) 13 = .ok (.iconst 0, 1) := by decide +kernel
theorem dd_205_14 : decode (mB 205) 14 = .ok (.bastore, 1) := by decide +kernel
theorem dd_205_15 : decode (mB 205) 15 = .ok (.iinc 2 1, 3) := by decide +kernel
theorem dd_205_18 : decode (mB 205) 18 = .ok (.goto (-16), 3) := by decide +kernel
theorem dd_205_21 : decode (mB 205) 21 = .ok (.iconst 0, 1) := by decide +kernel
theorem dd_205_22 : decode (mB 205) 22 = .ok (.istore_n 2, 1) := by decide +kernel
theorem dd_205_23 : decode (mB 205) 23 = .ok (.iload_n 2, 1) := by decide +kernel
theorem dd_205_24 : decode (mB 205) 24 = .ok (.aload_n 0, 1) := by decide +kernel
theorem dd_205_25 : decode (mB 205) 25 = .ok (.getfield 372, 3) := by decide +kernel
theorem dd_205_28 : decode (mB 205) 28 = .ok (.if_icmp .ge 112, 3) := by decide +kernel
theorem dd_205_31 : decode (mB 205) 31 = .ok (.aload_n 0, 1) := by decide +kernel
theorem dd_205_32 : decode (mB 205) 32 = .ok (.getfield 105, 3) := by decide +kernel
theorem dd_205_35 : decode (mB 205) 35 = .ok (.iload_n 2, 1) := by decide +kernel
theorem dd_205_36 : decode (mB 205) 36 = .ok (.iaload, 1) := by decide +kernel
theorem dd_205_37 : decode (mB 205) 37 = .ok (.ifCond .lt 97, 3) := by decide +kernel
theorem dd_205_40 : decode (mB 205) 40 = .ok (.aload_n 0, 1) := by decide +kernel
theorem dd_205_41 : decode (mB 205) 41 = .ok (.iload_n 2, 1) := by decide +kernel
theorem dd_205_42 : decode (mB 205) 42 = .ok (.iload_n 1, 1) := by decide +kernel
theorem dd_205_43 : decode (mB 205) 43 = .ok (.invokevirtual 440, 3) := by decide +kernel
theorem dd_205_46 : decode (mB 205) 46 = .ok (.ifCond .eq 88, 3) := by decide +kernel
theorem dd_205_49 : decode (mB 205) 49 = .ok (.aload_n 0, 1) := by decide +kernel
theorem dd_205_50 : decode (mB 205) 50 = .ok (.getfield 114, 3) := by decide +kernel
theorem dd_205_53 : decode (mB 205) 53 = .ok (.iload_n 2, 1) := by decide +kernel
theorem dd_205_54 : decode (mB 205) 54 = .ok (.dup2, 1) := by decide +kernel
theorem dd_205_55 : decode (mB 205) 55 = .ok (.iaload, 1) := by decide +kernel
theorem dd_205_56 : decode (mB 205) 56 = .ok (.iconst 1, 1) := by decide +kernel
theorem dd_205_57 : decode (mB 205) 57 = .ok (.iadd, 1) := by decide +kernel
theorem dd_205_58 : decode (mB 205) 58 = .ok (.iastore, 1) := by decide +kernel
theorem dd_205_59 : decode (mB 205) 59 = .ok (.aload_n 0, 1) := by decide +kernel
theorem dd_205_60 : decode (mB 205) 60 = .ok (.aload_n 0, 1) := by decide +kernel
theorem dd_205_61 : decode (mB 205) 61 = .ok (.getfield 81, 3) := by decide +kernel
theorem dd_205_64 : decode (mB 205) 64 = .ok (.iload_n 2, 1) := by decide +kernel
theorem dd_205_65 : decode (mB 205) 65 = .ok (.iaload, 1) := by decide +kernel
theorem dd_205_66 : decode (mB 205) 66 = .ok (.aload_n 0, 1) := by decide +kernel
theorem dd_205_67 : decode (mB 205) 67 = .ok (.getfield 84, 3) := by decide +kernel
theorem dd_205_70 : decode (mB 205) 70 = .ok (.iload_n 2, 1) := by decide +kernel
theorem dd_205_71 : decode (mB 205) 71 = .ok (.iaload, 1) := by decide +kernel
theorem dd_205_72 : decode (mB 205) 72 = .ok (.invokevirtual 259, 3) := by decide +kernel
theorem dd_205_75 : decode (mB 205) 75 = .ok (.istore_n 3, 1) := by decide +kernel
theorem dd_205_76 : decode (mB 205) 76 = .ok (.iload_n 3, 1) := by decide +kernel
theorem dd_205_77 : decode (mB 205) 77 = .ok (.aload_n 0, 1) := by decide +kernel
theorem dd_205_78 : decode (mB 205) 78 = .ok (.aload_n 0, 1) := by decide +kernel
theorem dd_205_79 : decode (mB 205) 79 = .ok (.getfield 81, 3) := by decide +kernel
theorem dd_205_82 : decode (mB 205) 82 = .ok (.iload_n 2, 1) := by decide +kernel
theorem dd_205_83 : decode (mB 205) 83 = .ok (.iaload, 1) := by decide +kernel
theorem dd_205_84 : decode (mB 205) 84 = .ok (.aload_n 0, 1) := by decide +kernel
theorem dd_205_85 : decode (mB 205) 85 = .ok (.getfield 84, 3) := by decide +kernel
theorem dd_205_88 : decode (mB 205) 88 = .ok (.iload_n 2, 1) := by decide +kernel
theorem dd_205_89 : decode (mB 205) 89 = .ok (.iaload, 1) := by decide +kernel
theorem dd_205_90 : decode (mB 205) 90 = .ok (.aload_n 0, 1) := by decide +kernel
theorem dd_205_91 : decode (mB 205) 91 = .ok (.getfield 78, 3) := by decide +kernel
theorem dd_205_94 : decode (mB 205) 94 = .ok (.iconst 1, 1) := by decide +kernel
theorem dd_205_95 : decode (mB 205) 95 = .ok (.iaload, 1) := by decide +kernel
theorem dd_205_96 : decode (mB 205) 96 = .ok (.invokevirtual 262, 3) := by decide +kernel
theorem dd_205_99 : decode (mB 205) 99 = .ok (.if_icmp .ge 35, 3) := by decide +kernel
theorem dd_205_102 : decode (mB 205) 102 = .ok (.iconst 0, 1) := by decide +kernel
theorem dd_205_103 : decode (mB 205) 103 = .ok (.istore 4, 2) := by decide +kernel
theorem dd_205_105 : decode (mB 205) 105 = .ok (.iload 4, 2) := by decide +kernel
theorem dd_205_107 : decode (mB 205) 107 = .ok (.aload_n 0, 1) := by decide +kernel
theorem dd_205_108 : decode (mB 205) 108 = .ok (.iload_n 3, 1) := by decide +kernel
theorem dd_205_109 : decode (mB 205) 109 = .ok (.invokevirtual 221, 3) := by decide +kernel
theorem dd_205_112 : decode (mB 205) 112 = .ok (.if_icmp .ge 22, 3) := by decide +kernel
theorem dd_205_115 : decode (mB 205) 115 = .ok (.aload_n 0, 1) := by decide +kernel
theorem dd_205_116 : decode (mB 205) 116 = .ok (.getfield 150, 3) := by decide +kernel
theorem dd_205_119 : decode (mB 205) 119 = .ok (.aload_n 0, 1) := by decide +kernel
theorem dd_205_120 : decode (mB 205) 120 = .ok (.iload_n 3, 1) := by decide +kernel
theorem dd_205_121 : decode (mB 205) 121 = .ok (.iload 4, 2) := by decide +kernel
theorem dd_205_123 : decode (mB 205) 123 = .ok (.invokevirtual 266, 3) := by decide +kernel
theorem dd_205_126 : decode (mB 205) 126 = .ok (.iconst 1, 1) := by decide +kernel
theorem dd_205_127 : decode (mB 205) 127 = .ok (.bastore, 1) := by decide +kernel
theorem dd_205_128 : decode (mB 205) 128 = .ok (.iinc 4 1, 3) := by decide +kernel
theorem dd_205_131 : decode (mB 205) 131 = .ok (.goto (-26), 3) := by decide +kernel
theorem dd_205_134 : decode (mB 205) 134 = .ok (.iinc 2 1, 3) := by decide +kernel
theorem dd_205_137 : decode (mB 205) 137 = .ok (.goto (-114), 3) := by decide +kernel
theorem dd_205_140 : decode (mB 205) 140 = .ok (.iconst 0, 1) := by decide +kernel
theorem dd_205_141 : decode (mB 205) 141 = .ok (.istore_n 2, 1) := by decide +kernel
theorem dd_205_142 : decode (mB 205) 142 = .ok (.iload_n 2, 1) := by decide +kernel
theorem dd_205_143 : decode (mB 205) 143 = .ok (.aload_n 0, 1) := by decide +kernel
theorem dd_205_144 : decode (mB 205) 144 = .ok (.getfield 187, 3) := by decide +kernel
theorem dd_205_147 : decode (mB 205) 147 = .ok (.aload_n 0, 1) := by decide +kernel
theorem dd_205_148 : decode (mB 205) 148 = .ok (.getfield 228, 3) := by decide +kernel
theorem dd_205_151 : decode (mB 205) 151 = .ok (.iadd, 1) := by decide +kernel
theorem dd_205_152 : decode (mB 205) 152 = .ok (.if_icmp .ge 85, 3) := by decide +kernel
theorem dd_205_155 : decode (mB 205) 155 = .ok (.aload_n 0, 1) := by decide +kernel
theorem dd_205_156 : decode (mB 205) 156 = .ok (.getfield 132, 3) := by decide +kernel
theorem dd_205_159 : decode (mB 205) 159 = .ok (.iload_n 2, 1) := by decide +kernel
theorem dd_205_160 : decode (mB 205) 160 = .ok (.dup2, 1) := by decide +kernel
theorem dd_205_161 : decode (mB 205) 161 = .ok (.iaload, 1) := by decide +kernel
theorem dd_205_162 : decode (mB 205) 162 = .ok (.aload_n 0, 1) := by decide +kernel
theorem dd_205_163 : decode (mB 205) 163 = .ok (.getfield 150, 3) := by decide +kernel
theorem dd_205_166 : decode (mB 205) 166 = .ok (.iload_n 2, 1) := by decide +kernel
theorem dd_205_167 : decode (mB 205) 167 = .ok (.baload, 1) := by decide +kernel
theorem dd_205_168 : decode (mB 205) 168 = .ok (.ifCond .eq 16, 3) := by decide +kernel
theorem dd_205_171 : decode (mB 205) 171 = .ok (.aload_n 0, 1) := by decide +kernel
theorem dd_205_172 : decode (mB 205) 172 = .ok (.iload_n 2, 1) := by decide +kernel
theorem dd_205_173 : decode (mB 205) 173 = .ok (.iload_n 1, 1) := by decide +kernel
theorem dd_205_174 : decode (mB 205) 174 = .ok (.invokevirtual 421, 3) := by decide +kernel
theorem dd_205_177 : decode (mB 205) 177 = .ok (.ifCond .eq 7, 3) := by decide +kernel
theorem dd_205_180 : decode (mB 205) 180 = .ok (.iconst 1, 1) := by decide +kernel
theorem dd_205_181 : decode (mB 205) 181 = .ok (.goto 4, 3) := by decide +kernel
theorem dd_205_184 : decode (mB 205) 184 = .ok (.iconst 0, 1) := by decide +kernel
theorem dd_205_185 : decode (mB 205) 185 = .ok (.invokestatic 314, 3) := by decide +kernel
theorem dd_205_188 : decode (mB 205) 188 = .ok (.iadd, 1) := by decide +kernel
theorem dd_205_189 : decode (mB 205) 189 = .ok (.iastore, 1) := by decide +kernel
theorem dd_205_190 : decode (mB 205) 190 = .ok (.aload_n 0, 1) := by decide +kernel
theorem dd_205_191 : decode (mB 205) 191 = .ok (.getfield 135, 3) := by decide +kernel
theorem dd_205_194 : decode (mB 205) 194 = .ok (.iload_n 2, 1) := by decide +kernel
theorem dd_205_195 : decode (mB 205) 195 = .ok (.dup2, 1) := by decide +kernel
theorem dd_205_196 : decode (mB 205) 196 = .ok (.iaload, 1) := by decide +kernel
theorem dd_205_197 : decode (mB 205) 197 = .ok (.aload_n 0, 1) := by decide +kernel
theorem dd_205_198 : decode (mB 205) 198 = .ok (.getfield 129, 3) := by decide +kernel
theorem dd_205_201 : decode (mB 205) 201 = .ok (.iload_n 2, 1) := by decide +kernel
theorem dd_205_202 : decode (mB 205) 202 = .ok (.iaload, 1) := by decide +kernel
theorem dd_205_203 : decode (mB 205) 203 = .ok (.ifCond .lt 22, 3) := by decide +kernel
theorem dd_205_206 : decode (mB 205) 206 = .ok (.aload_n 0, 1) := by decide +kernel
theorem dd_205_207 : decode (mB 205) 207 = .ok (.getfield 105, 3) := by decide +kernel
theorem dd_205_210 : decode (mB 205) 210 = .ok (.aload_n 0, 1) := by decide +kernel
theorem dd_205_211 : decode (mB 205) 211 = .ok (.getfield 129, 3) := by decide +kernel
theorem dd_205_214 : decode (mB 205) 214 = .ok (.iload_n 2, 1) := by decide +kernel
theorem dd_205_215 : decode (mB 205) 215 = .ok (.iaload, 1) := by decide +kernel
theorem dd_205_216 : decode (mB 205) 216 = .ok (.iaload, 1) := by decide +kernel
theorem dd_205_217 : decode (mB 205) 217 = .ok (.iconst 2, 1) := by decide +kernel
theorem dd_205_218 : decode (mB 205) 218 = .ok (.if_icmp .ne 7, 3) := by decide +kernel
theorem dd_205_221 : decode (mB 205) 221 = .ok (.iconst 1, 1) := by decide +kernel
theorem dd_205_222 : decode (mB 205) 222 = .ok (.goto 4, 3) := by decide +kernel
theorem dd_205_225 : decode (mB 205) 225 = .ok (.iconst 0, 1) := by decide +kernel
theorem dd_205_226 : decode (mB 205) 226 = .ok (.invokestatic 314, 3) := by decide +kernel
theorem dd_205_229 : decode (mB 205) 229 = .ok (.iadd, 1) := by decide +kernel
theorem dd_205_230 : decode (mB 205) 230 = .ok (.iastore, 1) := by decide +kernel
theorem dd_205_231 : decode (mB 205) 231 = .ok (.iinc 2 1, 3) := by decide +kernel
theorem dd_205_234 : decode (mB 205) 234 = .ok (.goto (-92), 3) := by decide +kernel
theorem dd_205_237 : decode (mB 205) 237 = .ok (.return_, 1) := by decide +kernel
theorem dd_206_0 : decode (mB 206) 0 = .ok (.aload_n 0, 1) := by decide +kernel
theorem dd_206_1 : decode (mB 206) 1 = .ok (.iload_n 1, 1) := by decide +kernel
theorem dd_206_2 : decode (mB 206) 2 = .ok (.invokevirtual 394, 3) := by decide +kernel
theorem dd_206_5 : decode (mB 206) 5 = .ok (.ifCond .eq 6, 3) := by decide +kernel
theorem dd_206_8 : decode (mB 206) 8 = .ok (.ldc 196, 2) := by decide +kernel
theorem dd_206_10 : decode (mB 206) 10 = .ok (.ireturn, 1) := by decide +kernel
theorem dd_206_11 : decode (mB 206) 11 = .ok (.aload_n 0, 1) := by decide +kernel
theorem dd_206_12 : decode (mB 206) 12 = .ok (.iconst 0, 1) := by decide +kernel
theorem dd_206_13 : decode (mB 206) 13 = .ok (.putfield 340, 3) := by decide +kernel
theorem dd_206_16 : decode (mB 206) 16 = .ok (.iload_n 2, 1) := by decide +kernel
theorem dd_206_17 : decode (mB 206) 17 = .ok (.tableswitch 199 0 13 #[71, 78, 85, 92, 99, 106, 113, 120, 127, 134, 141, 148, 174, 180], 71) := by decide +kernel
theorem dd_206_88 : decode (mB 206) 88 = .ok (.aload_n 0, 1) := by decide +kernel
theorem dd_206_89 : decode (mB 206) 89 = .ok (.getfield 81, 3) := by decide +kernel
theorem dd_206_92 : decode (mB 206) 92 = .ok (.iload_n 1, 1) := by decide +kernel
theorem dd_206_93 : decode (mB 206) 93 = .ok (.iaload, 1) := by decide +kernel
theorem dd_206_94 : decode (mB 206) 94 = .ok (.ireturn, 1) := by decide +kernel
theorem dd_206_95 : decode (mB 206) 95 = .ok (.aload_n 0, 1) := by decide +kernel
theorem dd_206_96 : decode (mB 206) 96 = .ok (.getfield 84, 3) := by decide +kernel
theorem dd_206_99 : decode (mB 206) 99 = .ok (.iload_n 1, 1) := by decide +kernel
theorem dd_206_100 : decode (mB 206) 100 = .ok (.iaload, 1) := by decide +kernel
theorem dd_206_101 : decode (mB 206) 101 = .ok (.ireturn, 1) := by decide +kernel
theorem dd_206_102 : decode (mB 206) 102 = .ok (.aload_n 0, 1) := by decide +kernel
theorem dd_206_103 : decode (mB 206) 103 = .ok (.getfield 87, 3) := by decide +kernel
theorem dd_206_106 : decode (mB 206) 106 = .ok (.iload_n 1, 1) := by decide +kernel
theorem dd_206_107 : decode (mB 206) 107 = .ok (.iaload, 1) := by decide +kernel
theorem dd_206_108 : decode (mB 206) 108 = .ok (.ireturn, 1) := by decide +kernel
theorem dd_206_109 : decode (mB 206) 109 = .ok (.aload_n 0, 1) := by decide +kernel
theorem dd_206_110 : decode (mB 206) 110 = .ok (.getfield 90, 3) := by decide +kernel
theorem dd_206_113 : decode (mB 206) 113 = .ok (.iload_n 1, 1) := by decide +kernel
theorem dd_206_114 : decode (mB 206) 114 = .ok (.iaload, 1) := by decide +kernel
theorem dd_206_115 : decode (mB 206) 115 = .ok (.ireturn, 1) := by decide +kernel
theorem dd_206_116 : decode (mB 206) 116 = .ok (.aload_n 0, 1) := by decide +kernel
theorem dd_206_117 : decode (mB 206) 117 = .ok (.getfield 93, 3) := by decide +kernel
theorem dd_206_120 : decode (mB 206) 120 = .ok (.iload_n 1, 1) := by decide +kernel
theorem dd_206_121 : decode (mB 206) 121 = .ok (.iaload, 1) := by decide +kernel
theorem dd_206_122 : decode (mB 206) 122 = .ok (.ireturn, 1) := by decide +kernel
theorem dd_206_123 : decode (mB 206) 123 = .ok (.aload_n 0, 1) := by decide +kernel
theorem dd_206_124 : decode (mB 206) 124 = .ok (.getfield 96, 3) := by decide +kernel
theorem dd_206_127 : decode (mB 206) 127 = .ok (.iload_n 1, 1) := by decide +kernel
theorem dd_206_128 : decode (mB 206) 128 = .ok (.iaload, 1) := by decide +kernel
theorem dd_206_129 : decode (mB 206) 129 = .ok (.ireturn, 1) := by decide +kernel
theorem dd_206_130 : decode (mB 206) 130 = .ok (.aload_n 0, 1) := by decide +kernel
theorem dd_206_131 : decode (mB 206) 131 = .ok (.getfield 105, 3) := by decide +kernel
theorem dd_206_134 : decode (mB 206) 134 = .ok (.iload_n 1, 1) := by decide +kernel
theorem dd_206_135 : decode (mB 206) 135 = .ok (.iaload, 1) := by decide +kernel
theorem dd_206_136 : decode (mB 206) 136 = .ok (.ireturn, 1) := by decide +kernel
theorem dd_206_137 : decode (mB 206) 137 = .ok (.aload_n 0, 1) := by decide +kernel
theorem dd_206_138 : decode (mB 206) 138 = .ok (.getfield 108, 3) := by decide +kernel
theorem dd_206_141 : decode (mB 206) 141 = .ok (.iload_n 1, 1) := by decide +kernel
theorem dd_206_142 : decode (mB 206) 142 = .ok (.iaload, 1) := by decide +kernel
theorem dd_206_143 : decode (mB 206) 143 = .ok (.ireturn, 1) := by decide +kernel
theorem dd_206_144 : decode (mB 206) 144 = .ok (.aload_n 0, 1) := by decide +kernel
theorem dd_206_145 : decode (mB 206) 145 = .ok (.getfield 111, 3) := by decide +kernel
theorem dd_206_148 : decode (mB 206) 148 = .ok (.iload_n 1, 1) := by decide +kernel
theorem dd_206_149 : decode (mB 206) 149 = .ok (.iaload, 1) := by decide +kernel
theorem dd_206_150 : decode (mB 206) 150 = .ok (.ireturn, 1) := by decide +kernel
theorem dd_206_151 : decode (mB 206) 151 = .ok (.aload_n 0, 1) := by decide +kernel
theorem dd_206_152 : decode (mB 206) 152 = .ok (.getfield 114, 3) := by decide +kernel
theorem dd_206_155 : decode (mB 206) 155 = .ok (.iload_n 1, 1) := by decide +kernel
theorem dd_206_156 : decode (mB 206) 156 = .ok (.iaload, 1) := by decide +kernel
theorem dd_206_157 : decode (mB 206) 157 = .ok (.ireturn, 1) := by decide +kernel
theorem dd_206_158 : decode (mB 206) 158 = .ok (.aload_n 0, 1) := by decide +kernel
theorem dd_206_159 : decode (mB 206) 159 = .ok (.getfield 99, 3) := by decide +kernel
theorem dd_206_162 : decode (mB 206) 162 = .ok (.iload_n 1, 1) := by decide +kernel
theorem dd_206_163 : decode (mB 206) 163 = .ok (.iaload, 1) := by decide +kernel
theorem dd_206_164 : decode (mB 206) 164 = .ok (.ireturn, 1) := by decide +kernel
theorem dd_206_165 : decode (mB 206) 165 = .ok (.aload_n 0, 1) := by decide +kernel
theorem dd_206_166 : decode (mB 206) 166 = .ok (.getfield 105, 3) := by decide +kernel
theorem dd_206_169 : decode (mB 206) 169 = .ok (.iload_n 1, 1) := by decide +kernel
theorem dd_206_170 : decode (mB 206) 170 = .ok (.iaload, 1) := by decide +kernel
theorem dd_206_171 : decode (mB 206) 171 = .ok (.iconst 1, 1) := by decide +kernel
theorem dd_206_172 : decode (mB 206) 172 = .ok (.if_icmp .ne 12, 3) := by decide +kernel
theorem dd_206_175 : decode (mB 206) 175 = .ok (.aload_n 0, 1) := by decide +kernel
theorem dd_206_176 : decode (mB 206) 176 = .ok (.getfield 117, 3) := by decide +kernel
theorem dd_206_179 : decode (mB 206) 179 = .ok (.iload_n 1, 1) := by decide +kernel
theorem dd_206_180 : decode (mB 206) 180 = .ok (.iaload, 1) := by decide +kernel
theorem dd_206_181 : decode (mB 206) 181 = .ok (.goto 9, 3) := by decide +kernel
theorem dd_206_184 : decode (mB 206) 184 = .ok (.aload_n 0, 1) := by decide +kernel
theorem dd_206_185 : decode (mB 206) 185 = .ok (.getfield 123, 3) := by decide +kernel
theorem dd_206_188 : decode (mB 206) 188 = .ok (.iload_n 1, 1) := by decide +kernel
theorem dd_206_189 : decode (mB 206) 189 = .ok (.iaload, 1) := by decide +kernel
theorem dd_206_190 : decode (mB 206) 190 = .ok (.ireturn, 1) := by decide +kernel
theorem dd_206_191 : decode (mB 206) 191 = .ok (.aload_n 0, 1) := by decide +kernel
theorem dd_206_192 : decode (mB 206) 192 = .ok (.iload_n 1, 1) := by decide +kernel
theorem dd_206_193 : decode (mB 206) 193 = .ok (.invokevirtual 475, 3) := by decide +kernel
theorem dd_206_196 : decode (mB 206) 196 = .ok (.ireturn, 1) := by decide +kernel
theorem dd_206_197 : decode (mB 206) 197 = .ok (.aload_n 0, 1) := by decide +kernel
theorem dd_206_198 : decode (mB 206) 198 = .ok (.getfield 123, 3) := by decide +kernel
theorem dd_206_201 : decode (mB 206) 201 = .ok (.iload_n 1, 1) := by decide +kernel
theorem dd_206_202 : decode (mB 206) 202 = .ok (.iaload, 1) := by decide +kernel
theorem dd_206_203 : decode (mB 206) 203 = .ok (.ifCond .ne 7, 3) := by decide +kernel
theorem dd_206_206 : decode (mB 206) 206 = .ok (.iconst (-1), 1) := by decide +kernel
theorem dd_206_207 : decode (mB 206) 207 = .ok (.goto 8, 3) := by decide +kernel
theorem dd_206_210 : decode (mB 206) 210 = .ok (.aload_n 0, 1) := by decide +kernel
theorem dd_206_211 : decode (mB 206) 211 = .ok (.iload_n 1, 1) := by decide +kernel
theorem dd_206_212 : decode (mB 206) 212 = .ok (.invokevirtual 472, 3) := by decide +kernel
theorem dd_206_215 : decode (mB 206) 215 = .ok (.ireturn, 1) := by decide +kernel
theorem dd_206_216 : decode (mB 206) 216 = .ok (.ldc 200, 2) := by decide +kernel
theorem dd_206_218 : decode (mB 206) 218 = .ok (.ireturn, 1) := by decide +kernel
theorem dd_207_0 : decode (mB 207) 0 = .ok (.aload_n 0, 1) := by decide +kernel
theorem dd_207_1 : decode (mB 207) 1 = .ok (.getfield 105, 3) := by decide +kernel
theorem dd_207_4 : decode (mB 207) 4 = .ok (.iload_n 1, 1) := by decide +kernel
theorem dd_207_5 : decode (mB 207) 5 = .ok (.iaload, 1) := by decide +kernel
theorem dd_207_6 : decode (mB 207) 6 = .ok (.iconst 3, 1) := by decide +kernel
theorem dd_207_7 : decode (mB 207) 7 = .ok (.if_icmp .eq 15, 3) := by decide +kernel
theorem dd_207_10 : decode (mB 207) 10 = .ok (.aload_n 0, 1) := by decide +kernel
theorem dd_207_11 : decode (mB 207) 11 = .ok (.getfield 105, 3) := by decide +kernel
theorem dd_207_14 : decode (mB 207) 14 = .ok (.iload_n 1, 1) := by decide +kernel
theorem dd_207_15 : decode (mB 207) 15 = .ok (.iaload, 1) := by decide +kernel
theorem dd_207_16 : decode (mB 207) 16 = .ok (.iconst 4, 1) := by decide +kernel
theorem dd_207_17 : decode (mB 207) 17 = .ok (.if_icmp .eq 5, 3) := by decide +kernel
theorem dd_207_20 : decode (mB 207) 20 = .ok (.iconst 0, 1) := by decide +kernel
theorem dd_207_21 : decode (mB 207) 21 = .ok (.ireturn, 1) := by decide +kernel
theorem dd_207_22 : decode (mB 207) 22 = .ok (.aload_n 0, 1) := by decide +kernel
theorem dd_207_23 : decode (mB 207) 23 = .ok (.aload_n 0, 1) := by decide +kernel
theorem dd_207_24 : decode (mB 207) 24 = .ok (.getfield 108, 3) := by decide +kernel
theorem dd_207_27 : decode (mB 207) 27 = .ok (.iload_n 1, 1) := by decide +kernel
theorem dd_207_28 : decode (mB 207) 28 = .ok (.iaload, 1) := by decide +kernel
theorem dd_207_29 : decode (mB 207) 29 = .ok (.invokevirtual 355, 3) := by decide +kernel
theorem dd_207_32 : decode (mB 207) 32 = .ok (.aload_n 0, 1) := by decide +kernel
theorem dd_207_33 : decode (mB 207) 33 = .ok (.getfield 105, 3) := by decide +kernel
theorem dd_207_36 : decode (mB 207) 36 = .ok (.iload_n 1, 1) := by decide +kernel
theorem dd_207_37 : decode (mB 207) 37 = .ok (.iaload, 1) := by decide +kernel
theorem dd_207_38 : decode (mB 207) 38 = .ok (.iconst 3, 1) := by decide +kernel
theorem dd_207_39 : decode (mB 207) 39 = .ok (.if_icmp .ne 12, 3) := by decide +kernel
theorem dd_207_42 : decode (mB 207) 42 = .ok (.aload_n 0, 1) := by decide +kernel
theorem dd_207_43 : decode (mB 207) 43 = .ok (.getfield 87, 3) := by decide +kernel
theorem dd_207_46 : decode (mB 207) 46 = .ok (.iload_n 1, 1) := by decide +kernel
theorem dd_207_47 : decode (mB 207) 47 = .ok (.iaload, 1) := by decide +kernel
theorem dd_207_48 : decode (mB 207) 48 = .ok (.goto 16, 3) := by decide +kernel
theorem dd_207_51 : decode (mB 207) 51 = .ok (.aload_n 0, 1) := by decide +kernel
theorem dd_207_52 : decode (mB 207) 52 = .ok (.getfield 111, 3) := by decide +kernel
theorem dd_207_55 : decode (mB 207) 55 = .ok (.iload_n 1, 1) := by decide +kernel
theorem dd_207_56 : decode (mB 207) 56 = .ok (.iaload, 1) := by decide +kernel
theorem dd_207_57 : decode (mB 207) 57 = .ok (.aload_n 0, 1) := by decide +kernel
theorem dd_207_58 : decode (mB 207) 58 = .ok (.getfield 108, 3) := by decide +kernel
theorem dd_207_61 : decode (mB 207) 61 = .ok (.iload_n 1, 1) := by decide +kernel
theorem dd_207_62 : decode (mB 207) 62 = .ok (.iaload, 1) := by decide +kernel
theorem dd_207_63 : decode (mB 207) 63 = .ok (.isub, 1) := by decide +kernel
theorem dd_207_64 : decode (mB 207) 64 = .ok (.istore_n 2, 1) := by decide +kernel
theorem dd_207_65 : decode (mB 207) 65 = .ok (.iload_n 2, 1) := by decide +kernel
theorem dd_207_66 : decode (mB 207) 66 = .ok (.iconst 2, 1) := by decide +kernel
theorem dd_207_67 : decode (mB 207) 67 = .ok (.iadd, 1) := by decide +kernel
theorem dd_207_68 : decode (mB 207) 68 = .ok (.iconst 3, 1) := by decide +kernel
theorem dd_207_69 : decode (mB 207) 69 = .ok (.idiv, 1) := by decide +kernel
theorem dd_207_70 : decode (mB 207) 70 = .ok (.aload_n 0, 1) := by decide +kernel
theorem dd_207_71 : decode (mB 207) 71 = .ok (.aload_n 0, 1) := by decide +kernel
theorem dd_207_72 : decode (mB 207) 72 = .ok (.iload_n 1, 1) := by decide +kernel
theorem dd_207_73 : decode (mB 207) 73 = .ok (.invokevirtual 472, 3) := by decide +kernel
theorem dd_207_76 : decode (mB 207) 76 = .ok (.invokevirtual 366, 3) := by decide +kernel
theorem dd_207_79 : decode (mB 207) 79 = .ok (.imul, 1) := by decide +kernel
theorem dd_207_80 : decode (mB 207) 80 = .ok (.aload_n 0, 1) := by decide +kernel
theorem dd_207_81 : decode (mB 207) 81 = .ok (.aload_n 0, 1) := by decide +kernel
theorem dd_207_82 : decode (mB 207) 82 = .ok (.getfield 108, 3) := by decide +kernel
theorem dd_207_85 : decode (mB 207) 85 = .ok (.iload_n 1, 1) := by decide +kernel
theorem dd_207_86 : decode (mB 207) 86 = .ok (.iaload, 1) := by decide +kernel
theorem dd_207_87 : decode (mB 207) 87 = .ok (.invokevirtual 369, 3) := by decide +kernel
theorem dd_207_90 : decode (mB 207) 90 = .ok (.imul, 1) := by decide +kernel
theorem dd_207_91 : decode (mB 207) 91 = .ok (.bipush 100, 2) := by decide +kernel
theorem dd_207_93 : decode (mB 207) 93 = .ok (.idiv, 1) := by decide +kernel
theorem dd_207_94 : decode (mB 207) 94 = .ok (.istore_n 3, 1) := by decide +kernel
theorem dd_207_95 : decode (mB 207) 95 = .ok (.iload_n 3, 1) := by decide +kernel
theorem dd_207_96 : decode (mB 207) 96 = .ok (.aload_n 0, 1) := by decide +kernel
theorem dd_207_97 : decode (mB 207) 97 = .ok (.getfield 90, 3) := by decide +kernel
theorem dd_207_100 : decode (mB 207) 100 = .ok (.iload_n 1, 1) := by decide +kernel
theorem dd_207_101 : decode (mB 207) 101 = .ok (.iaload, 1) := by decide +kernel
theorem dd_207_102 : decode (mB 207) 102 = .ok (.iconst 1, 1) := by decide +kernel
theorem dd_207_103 : decode (mB 207) 103 = .ok (.if_icmp .ne 7, 3) := by decide +kernel
theorem dd_207_106 : decode (mB 207) 106 = .ok (.iconst 2, 1) := by decide +kernel
theorem dd_207_107 : decode (mB 207) 107 = .ok (.goto 4, 3) := by decide +kernel
theorem dd_207_110 : decode (mB 207) 110 = .ok (.iconst 1, 1) := by decide +kernel
theorem dd_207_111 : decode (mB 207) 111 = .ok (.imul, 1) := by decide +kernel
theorem dd_207_112 : decode (mB 207) 112 = .ok (.istore_n 3, 1) := by decide +kernel
theorem dd_207_113 : decode (mB 207) 113 = .ok (.aload_n 0, 1) := by decide +kernel
theorem dd_207_114 : decode (mB 207) 114 = .ok (.getfield 90, 3) := by decide +kernel
theorem dd_207_117 : decode (mB 207) 117 = .ok (.iload_n 1, 1) := by decide +kernel
theorem dd_207_118 : decode (mB 207) 118 = .ok (.iaload, 1) := by decide +kernel
theorem dd_207_119 : decode (mB 207) 119 = .ok (.iconst 2, 1) := by decide +kernel
theorem dd_207_120 : decode (mB 207) 120 = .ok (.if_icmp .ne 31, 3) := by decide +kernel
theorem dd_207_123 : decode (mB 207) 123 = .ok (.aload_n 0, 1) := by decide +kernel
theorem dd_207_124 : decode (mB 207) 124 = .ok (.getfield 108, 3) := by decide +kernel
theorem dd_207_127 : decode (mB 207) 127 = .ok (.iload_n 1, 1) := by decide +kernel
theorem dd_207_128 : decode (mB 207) 128 = .ok (.iaload, 1) := by decide +kernel
theorem dd_207_129 : decode (mB 207) 129 = .ok (.aload_n 0, 1) := by decide +kernel
theorem dd_207_130 : decode (mB 207) 130 = .ok (.getfield 93, 3) := by decide +kernel
theorem dd_207_133 : decode (mB 207) 133 = .ok (.iload_n 1, 1) := by decide +kernel
theorem dd_207_134 : decode (mB 207) 134 = .ok (.iaload, 1) := by decide +kernel
theorem dd_207_135 : decode (mB 207) 135 = .ok (.aload_n 0, 1) := by decide +kernel
theorem dd_207_136 : decode (mB 207) 136 = .ok (.getfield 78, 3) := by decide +kernel
theorem dd_207_139 : decode (mB 207) 139 = .ok (.iconst 3, 1) := by decide +kernel
theorem dd_207_140 : decode (mB 207) 140 = .ok (.iaload, 1) := by decide +kernel
theorem dd_207_141 : decode (mB 207) 141 = .ok (.iadd, 1) := by decide +kernel
theorem dd_207_142 : decode (mB 207) 142 = .ok (.if_icmp .le 9, 3) := by decide +kernel
theorem dd_207_145 : decode (mB 207) 145 = .ok (.iload_n 3, 1) := by decide +kernel
theorem dd_207_146 : decode (mB 207) 146 = .ok (.iconst 2, 1) := by decide +kernel
theorem dd_207_147 : decode (mB 207) 147 = .ok (.idiv, 1) := by decide +kernel
theorem dd_207_148 : decode (mB 207) 148 = .ok (.goto 4, 3) := by decide +kernel
theorem dd_207_151 : decode (mB 207) 151 = .ok (.iload_n 3, 1) := by decide +kernel
theorem dd_207_152 : decode (mB 207) 152 = .ok (.istore_n 3, 1) := by decide +kernel
theorem dd_207_153 : decode (mB 207) 153 = .ok (.aload_n 0, 1) := by decide +kernel
theorem dd_207_154 : decode (mB 207) 154 = .ok (.getfield 105, 3) := by decide +kernel
theorem dd_207_157 : decode (mB 207) 157 = .ok (.iload_n 1, 1) := by decide +kernel
theorem dd_207_158 : decode (mB 207) 158 = .ok (.iaload, 1) := by decide +kernel
theorem dd_207_159 : decode (mB 207) 159 = .ok (.iconst 4, 1) := by decide +kernel
theorem dd_207_160 : decode (mB 207) 160 = .ok (.if_icmp .ne 20, 3) := by decide +kernel
theorem dd_207_163 : decode (mB 207) 163 = .ok (.iload_n 3, 1) := by decide +kernel
theorem dd_207_164 : decode (mB 207) 164 = .ok (.iload_n 3, 1) := by decide +kernel
theorem dd_207_165 : decode (mB 207) 165 = .ok (.aload_n 0, 1) := by decide +kernel
theorem dd_207_166 : decode (mB 207) 166 = .ok (.getfield 78, 3) := by decide +kernel
theorem dd_207_169 : decode (mB 207) 169 = .ok (.bipush 7, 2) := by decide +kernel
theorem dd_207_171 : decode (mB 207) 171 = .ok (.iaload, 1) := by decide +kernel
theorem dd_207_172 : decode (mB 207) 172 = .ok (.imul, 1) := by decide +kernel
theorem dd_207_173 : decode (mB 207) 173 = .ok (.bipush 100, 2) := by decide +kernel
theorem dd_207_175 : decode (mB 207) 175 = .ok (.idiv, 1) := by decide +kernel
theorem dd_207_176 : decode (mB 207) 176 = .ok (.isub, 1) := by decide +kernel
theorem dd_207_177 : decode (mB 207) 177 = .ok (.goto 4, 3) := by decide +kernel
theorem dd_207_180 : decode (mB 207) 180 = .ok (.iload_n 3, 1) := by decide +kernel
theorem dd_207_181 : decode (mB 207) 181 = .ok (.ireturn, 1) := by decide +kernel
theorem dd_208_0 : decode (mB 208) 0 = .ok (.iconst 0, 1) := by decide +kernel
theorem dd_208_1 : decode (mB 208) 1 = .ok (.istore_n 2, 1) := by decide +kernel
theorem dd_208_2 : decode (mB 208) 2 = .ok (.iconst 0, 1) := by decide +kernel
theorem dd_208_3 : decode (mB 208) 3 = .ok (.istore_n 3, 1) := by decide +kernel
theorem dd_208_4 : decode (mB 208) 4 = .ok (.iload_n 3, 1) := by decide +kernel
theorem dd_208_5 : decode (mB 208) 5 = .ok (.aload_n 0, 1) := by decide +kernel
theorem dd_208_6 : decode (mB 208) 6 = .ok (.getfield 123, 3) := by decide +kernel
theorem dd_208_9 : decode (mB 208) 9 = .ok (.iload_n 1, 1) := by decide +kernel
theorem dd_208_10 : decode (mB 208) 10 = .ok (.iaload, 1) := by decide +kernel
theorem dd_208_11 : decode (mB 208) 11 = .ok (.if_icmp .ge 27, 3) := by decide +kernel
theorem dd_208_14 : decode (mB 208) 14 = .ok (.iload_n 2, 1) := by decide +kernel
theorem dd_208_15 : decode (mB 208) 15 = .ok (.aload_n 0, 1) := by decide +kernel
theorem dd_208_16 : decode (mB 208) 16 = .ok (.getfield 16, 3) := by decide +kernel
theorem dd_208_19 : decode (mB 208) 19 = .ok (.aload_n 0, 1) := by decide +kernel
theorem dd_208_20 : decode (mB 208) 20 = .ok (.getfield 126, 3) := by decide +kernel
theorem dd_208_23 : decode (mB 208) 23 = .ok (.iconst 3, 1) := by decide +kernel
theorem dd_208_24 : decode (mB 208) 24 = .ok (.iload_n 1, 1) := by decide +kernel
theorem dd_208_25 : decode (mB 208) 25 = .ok (.imul, 1) := by decide +kernel
theorem dd_208_26 : decode (mB 208) 26 = .ok (.iload_n 3, 1) := by decide +kernel
theorem dd_208_27 : decode (mB 208) 27 = .ok (.iadd, 1) := by decide +kernel
theorem dd_208_28 : decode (mB 208) 28 = .ok (.iaload, 1) := by decide +kernel
theorem dd_208_29 : decode (mB 208) 29 = .ok (.iaload, 1) := by decide +kernel
theorem dd_208_30 : decode (mB 208) 30 = .ok (.iadd, 1) := by decide +kernel
theorem dd_208_31 : decode (mB 208) 31 = .ok (.istore_n 2, 1) := by decide +kernel
theorem dd_208_32 : decode (mB 208) 32 = .ok (.iinc 3 1, 3) := by decide +kernel
theorem dd_208_35 : decode (mB 208) 35 = .ok (.goto (-31), 3) := by decide +kernel
theorem dd_208_38 : decode (mB 208) 38 = .ok (.iload_n 2, 1) := by decide +kernel
theorem dd_208_39 : decode (mB 208) 39 = .ok (.ireturn, 1) := by decide +kernel
theorem dd_209_0 : decode (mB 209) 0 = .ok (.aload_n 0, 1) := by decide +kernel
theorem dd_209_1 : decode (mB 209) 1 = .ok (.iload_n 1, 1) := by decide +kernel
theorem dd_209_2 : decode (mB 209) 2 = .ok (.invokevirtual 394, 3) := by decide +kernel
theorem dd_209_5 : decode (mB 209) 5 = .ok (.ifCond .eq 6, 3) := by decide +kernel
theorem dd_209_8 : decode (mB 209) 8 = .ok (.ldc 196, 2) := by decide +kernel
theorem dd_209_10 : decode (mB 209) 10 = .ok (.ireturn, 1) := by decide +kernel
theorem dd_209_11 : decode (mB 209) 11 = .ok (.iload_n 2, 1) := by decide +kernel
theorem dd_209_12 : decode (mB 209) 12 = .ok (.i2l, 1) := by decide +kernel
theorem dd_209_13 : decode (mB 209) 13 = .ok (.lconst 0, 1) := by decide +kernel
theorem dd_209_14 : decode (mB 209) 14 = .ok (.aload_n 0, 1) := by decide +kernel
theorem dd_209_15 : decode (mB 209) 15 = .ok (.getfield 123, 3) := by decide +kernel
theorem dd_209_18 : decode (mB 209) 18 = .ok (.iload_n 1, 1) := by decide +kernel
theorem dd_209_19 : decode (mB 209) 19 = .ok (.iaload, 1) := by decide +kernel
theorem dd_209_20 : decode (mB 209) 20 = .ok (.iconst 1, 1) := by decide +kernel
theorem dd_209_21 : decode (mB 209) 21 = .ok (.isub, 1) := by decide +kernel
theorem dd_209_22 : decode (mB 209) 22 = .ok (.i2l, 1) := by decide +kernel
theorem dd_209_23 : decode (mB 209) 23 = .ok (.invokestatic 183, 3) := by decide +kernel
theorem dd_209_26 : decode (mB 209) 26 = .ok (.ifCond .eq 16, 3) := by decide +kernel
theorem dd_209_29 : decode (mB 209) 29 = .ok (.aload_n 0, 1) := by decide +kernel
theorem dd_209_30 : decode (mB 209) 30 = .ok (.getfield 126, 3) := by decide +kernel
theorem dd_209_33 : decode (mB 209) 33 = .ok (.iconst 3, 1) := by decide +kernel
theorem dd_209_34 : decode (mB 209) 34 = .ok (.iload_n 1, 1) := by decide +kernel
theorem dd_209_35 : decode (mB 209) 35 = .ok (.imul, 1) := by decide +kernel
theorem dd_209_36 : decode (mB 209) 36 = .ok (.iload_n 2, 1) := by decide +kernel
theorem dd_209_37 : decode (mB 209) 37 = .ok (.iadd, 1) := by decide +kernel
theorem dd_209_38 : decode (mB 209) 38 = .ok (.iaload, 1) := by decide +kernel
theorem dd_209_39 : decode (mB 209) 39 = .ok (.goto 4, 3) := by decide +kernel
theorem dd_209_42 : decode (mB 209) 42 = .ok (.iconst (-1), 1) := by decide +kernel
theorem dd_209_43 : decode (mB 209) 43 = .ok (.ireturn, 1) := by decide +kernel
theorem dd_210_0 : decode (mB 210) 0 = .ok (.aload_n 0, 1) := by decide +kernel
theorem dd_210_1 : decode (mB 210) 1 = .ok (.iload_n 1, 1) := by decide +kernel
theorem dd_210_2 : decode (mB 210) 2 = .ok (.invokevirtual 208, 3) := by decide +kernel
theorem dd_210_5 : decode (mB 210) 5 = .ok (.ifCond .eq 6, 3) := by decide +kernel
theorem dd_210_8 : decode (mB 210) 8 = .ok (.ldc 196, 2) := by decide +kernel
theorem dd_210_10 : decode (mB 210) 10 = .ok (.ireturn, 1) := by decide +kernel
theorem dd_210_11 : decode (mB 210) 11 = .ok (.iload_n 2, 1) := by decide +kernel
theorem dd_210_12 : decode (mB 210) 12 = .ok (.tableswitch 96 0 6 #[44, 51, 58, 65, 75, 82, 89], 44) := by decide +kernel
theorem dd_210_56 : decode (mB 210) 56 = .ok (.aload_n 0, 1) := by decide +kernel
theorem dd_210_57 : decode (mB 210) 57 = .ok (.getfield 7, 3) := by decide +kernel
theorem dd_210_60 : decode (mB 210) 60 = .ok (.iload_n 1, 1) := by decide +kernel
theorem dd_210_61 : decode (mB 210) 61 = .ok (.iaload, 1) := by decide +kernel
theorem dd_210_62 : decode (mB 210) 62 = .ok (.ireturn, 1) := by decide +kernel
theorem dd_210_63 : decode (mB 210) 63 = .ok (.aload_n 0, 1) := by decide +kernel
theorem dd_210_64 : decode (mB 210) 64 = .ok (.getfield 13, 3) := by decide +kernel
theorem dd_210_67 : decode (mB 210) 67 = .ok (.iload_n 1, 1) := by decide +kernel
theorem dd_210_68 : decode (mB 210) 68 = .ok (.iaload, 1) := by decide +kernel
theorem dd_210_69 : decode (mB 210) 69 = .ok (.ireturn, 1) := by decide +kernel
theorem dd_210_70 : decode (mB 210) 70 = .ok (.aload_n 0, 1) := by decide +kernel
theorem dd_210_71 : decode (mB 210) 71 = .ok (.getfield 16, 3) := by decide +kernel
theorem dd_210_74 : decode (mB 210) 74 = .ok (.iload_n 1, 1) := by decide +kernel
theorem dd_210_75 : decode (mB 210) 75 = .ok (.iaload, 1) := by decide +kernel
theorem dd_210_76 : decode (mB 210) 76 = .ok (.ireturn, 1) := by decide +kernel
theorem dd_210_77 : decode (mB 210) 77 = .ok (.aload_n 0, 1) := by decide +kernel
theorem dd_210_78 : decode (mB 210) 78 = .ok (.iload_n 1, 1) := by decide +kernel
theorem dd_210_79 : decode (mB 210) 79 = .ok (.aload_n 0, 1) := by decide +kernel
theorem dd_210_80 : decode (mB 210) 80 = .ok (.getfield 378, 3) := by decide +kernel
theorem dd_210_83 : decode (mB 210) 83 = .ok (.invokevirtual 400, 3) := by decide +kernel
theorem dd_210_86 : decode (mB 210) 86 = .ok (.ireturn, 1) := by decide +kernel
theorem dd_210_87 : decode (mB 210) 87 = .ok (.aload_n 0, 1) := by decide +kernel
theorem dd_210_88 : decode (mB 210) 88 = .ok (.getfield 129, 3) := by decide +kernel
theorem dd_210_91 : decode (mB 210) 91 = .ok (.iload_n 1, 1) := by decide +kernel
theorem dd_210_92 : decode (mB 210) 92 = .ok (.iaload, 1) := by decide +kernel
theorem dd_210_93 : decode (mB 210) 93 = .ok (.ireturn, 1) := by decide +kernel
theorem dd_210_94 : decode (mB 210) 94 = .ok (.aload_n 0, 1) := by decide +kernel
theorem dd_210_95 : decode (mB 210) 95 = .ok (.getfield 132, 3) := by decide +kernel
theorem dd_210_98 : decode (mB 210) 98 = .ok (.iload_n 1, 1) := by decide +kernel
theorem dd_210_99 : decode (mB 210) 99 = .ok (.iaload, 1) := by decide +kernel
theorem dd_210_100 : decode (mB 210) 100 = .ok (.ireturn, 1) := by decide +kernel
theorem dd_210_101 : decode (mB 210) 101 = .ok (.aload_n 0, 1) := by decide +kernel
theorem dd_210_102 : decode (mB 210) 102 = .ok (.getfield 135, 3) := by decide +kernel
theorem dd_210_105 : decode (mB 210) 105 = .ok (.iload_n 1, 1) := by decide +kernel
theorem dd_210_106 : decode (mB 210) 106 = .ok (.iaload, 1) := by decide +kernel
theorem dd_210_107 : decode (mB 210) 107 = .ok (.ireturn, 1) := by decide +kernel
theorem dd_210_108 : decode (mB 210) 108 = .ok (.ldc 200, 2) := by decide +kernel
theorem dd_210_110 : decode (mB 210) 110 = .ok (.ireturn, 1) := by decide +kernel
theorem dd_211_0 : decode (mB 211) 0 = .ok (.aload_n 0, 1) := by decide +kernel
theorem dd_211_1 : decode (mB 211) 1 = .ok (.iconst 0, 1) := by decide +kernel
theorem dd_211_2 : decode (mB 211) 2 = .ok (.putfield 340, 3) := by decide +kernel
theorem dd_211_5 : decode (mB 211) 5 = .ok (.iload_n 1, 1) := by decide +kernel
theorem dd_211_6 : decode (mB 211) 6 = .ok (.tableswitch 136 0 15 #[78, 83, 88, 93, 93, 93, 93, 93, 93, 101, 106, 111, 116, 121, 126, 131], 78) := by decide +kernel
theorem dd_211_84 : decode (mB 211) 84 = .ok (.aload_n 0, 1) := by decide +kernel
theorem dd_211_85 : decode (mB 211) 85 = .ok (.getfield 378, 3) := by decide +kernel
theorem dd_211_88 : decode (mB 211) 88 = .ok (.ireturn, 1) := by decide +kernel
theorem dd_211_89 : decode (mB 211) 89 = .ok (.aload_n 0, 1) := by decide +kernel
theorem dd_211_90 : decode (mB 211) 90 = .ok (.getfield 187, 3) := by decide +kernel
theorem dd_211_93 : decode (mB 211) 93 = .ok (.ireturn, 1) := by decide +kernel
theorem dd_211_94 : decode (mB 211) 94 = .ok (.aload_n 0, 1) := by decide +kernel
theorem dd_211_95 : decode (mB 211) 95 = .ok (.getfield 372, 3) := by decide +kernel
theorem dd_211_98 : decode (mB 211) 98 = .ok (.ireturn, 1) := by decide +kernel
theorem dd_211_99 : decode (mB 211) 99 = .ok (.aload_n 0, 1) := by decide +kernel
theorem dd_211_100 : decode (mB 211) 100 = .ok (.iload_n 1, 1) := by decide +kernel
theorem dd_211_101 : decode (mB 211) 101 = .ok (.iconst 3, 1) := by decide +kernel
theorem dd_211_102 : decode (mB 211) 102 = .ok (.isub, 1) := by decide +kernel
theorem dd_211_103 : decode (mB 211) 103 = .ok (.invokevirtual 478, 3) := by decide +kernel
theorem dd_211_106 : decode (mB 211) 106 = .ok (.ireturn, 1) := by decide +kernel
theorem dd_211_107 : decode (mB 211) 107 = .ok (.aload_n 0, 1) := by decide +kernel
theorem dd_211_108 : decode (mB 211) 108 = .ok (.getfield 418, 3) := by decide +kernel
theorem dd_211_111 : decode (mB 211) 111 = .ok (.ireturn, 1) := by decide +kernel
theorem dd_211_112 : decode (mB 211) 112 = .ok (.aload_n 0, 1) := by decide +kernel
theorem dd_211_113 : decode (mB 211) 113 = .ok (.getfield 331, 3) := by decide +kernel
theorem dd_211_116 : decode (mB 211) 116 = .ok (.ireturn, 1) := by decide +kernel
theorem dd_211_117 : decode (mB 211) 117 = .ok (.aload_n 0, 1) := by decide +kernel
theorem dd_211_118 : decode (mB 211) 118 = .ok (.getfield 481, 3) := by decide +kernel
theorem dd_211_121 : decode (mB 211) 121 = .ok (.ireturn, 1) := by decide +kernel
theorem dd_211_122 : decode (mB 211) 122 = .ok (.aload_n 0, 1) := by decide +kernel
theorem dd_211_123 : decode (mB 211) 123 = .ok (.getfield 484, 3) := by decide +kernel
theorem dd_211_126 : decode (mB 211) 126 = .ok (.ireturn, 1) := by decide +kernel
theorem dd_211_127 : decode (mB 211) 127 = .ok (.aload_n 0, 1) := by decide +kernel
theorem dd_211_128 : decode (mB 211) 128 = .ok (.getfield 271, 3) := by decide +kernel
theorem dd_211_131 : decode (mB 211) 131 = .ok (.ireturn, 1) := by decide +kernel
theorem dd_211_132 : decode (mB 211) 132 = .ok (.aload_n 0, 1) := by decide +kernel
theorem dd_211_133 : decode (mB 211) 133 = .ok (.invokevirtual 487, 3) := by decide +kernel
theorem dd_211_136 : decode (mB 211) 136 = .ok (.ireturn, 1) := by decide +kernel
theorem dd_211_137 : decode (mB 211) 137 = .ok (.aload_n 0, 1) := by decide +kernel
theorem dd_211_138 : decode (mB 211) 138 = .ok (.invokevirtual 490, 3) := by decide +kernel
theorem dd_211_141 : decode (mB 211) 141 = .ok (.ireturn, 1) := by decide +kernel
theorem dd_211_142 : decode (mB 211) 142 = .ok (.ldc 200, 2) := by decide +kernel
theorem dd_211_144 : decode (mB 211) 144 = .ok (.ireturn, 1) := by decide +kernel
theorem dd_212_0 : decode (mB 212) 0 = .ok (.iconst 0, 1) := by decide +kernel
theorem dd_212_1 : decode (mB 212) 1 = .ok (.istore_n 2, 1) := by decide +kernel
theorem dd_212_2 : decode (mB 212) 2 = .ok (.iconst 0, 1) := by decide +kernel
theorem dd_212_3 : decode (mB 212) 3 = .ok (.istore_n 3, 1) := by decide +kernel
theorem dd_212_4 : decode (mB 212) 4 = .ok (.iload_n 3, 1) := by decide +kernel
theorem dd_212_5 : decode (mB 212) 5 = .ok (.aload_n 0, 1) := by decide +kernel
theorem dd_212_6 : decode (mB 212) 6 = .ok (.getfield 372, 3) := by decide +kernel
theorem dd_212_9 : decode (mB 212) 9 = .ok (.if_icmp .ge 30, 3) := by decide +kernel
theorem dd_212_12 : decode (mB 212) 12 = .ok (.iload_n 2, 1) := by decide +kernel
theorem dd_212_13 : decode (mB 212) 13 = .ok (.aload_n 0, 1) := by decide +kernel
theorem dd_212_14 : decode (mB 212) 14 = .ok (.getfield 105, 3) := by decide +kernel
theorem dd_212_17 : decode (mB 212) 17 = .ok (.iload_n 3, 1) := by decide +kernel
theorem dd_212_18 : decode (mB 212) 18 = .ok (.iaload, 1) := by decide +kernel
theorem dd_212_19 : decode (mB 212) 19 = .ok (.iload_n 1, 1) := by decide +kernel
theorem dd_212_20 : decode (mB 212) 20 = .ok (.if_icmp .ne 7, 3) := by decide +kernel
theorem dd_212_23 : decode (mB 212) 23 = .ok (.iconst 1, 1) := by decide +kernel
theorem dd_212_24 : decode (mB 212) 24 = .ok (.goto 4, 3) := by decide +kernel
theorem dd_212_27 : decode (mB 212) 27 = .ok (.iconst 0, 1) := by decide +kernel
theorem dd_212_28 : decode (mB 212) 28 = .ok (.invokestatic 314, 3) := by decide +kernel
theorem dd_212_31 : decode (mB 212) 31 = .ok (.iadd, 1) := by decide +kernel
theorem dd_212_32 : decode (mB 212) 32 = .ok (.istore_n 2, 1) := by decide +kernel
theorem dd_212_33 : decode (mB 212) 33 = .ok (.iinc 3 1, 3) := by decide +kernel
theorem dd_212_36 : decode (mB 212) 36 = .ok (.goto (-32), 3) := by decide +kernel
theorem dd_212_39 : decode (mB 212) 39 = .ok (.iload_n 2, 1) := by decide +kernel
theorem dd_212_40 : decode (mB 212) 40 = .ok (.ireturn, 1) := by decide +kernel
theorem dd_213_0 : decode (mB 213) 0 = .ok (.iconst 0, 1) := by decide +kernel
theorem dd_213_1 : decode (mB 213) 1 = .ok (.istore_n 1, 1) := by decide +kernel
theorem dd_213_2 : decode (mB 213) 2 = .ok (.iconst 0, 1) := by decide +kernel
theorem dd_213_3 : decode (mB 213) 3 = .ok (.istore_n 2, 1) := by decide +kernel
theorem dd_213_4 : decode (mB 213) 4 = .ok (.iload_n 2, 1) := by decide +kernel
theorem dd_213_5 : decode (mB 213) 5 = .ok (.aload_n 0, 1) := by decide +kernel
theorem dd_213_6 : decode (mB 213) 6 = .ok (.getfield 372, 3) := by decide +kernel
theorem dd_213_9 : decode (mB 213) 9 = .ok (.if_icmp .ge 31, 3) := by decide +kernel
theorem dd_213_12 : decode (mB 213) 12 = .ok (.iload_n 1, 1) := by decide +kernel
theorem dd_213_13 : decode (mB 213) 13 = .ok (.aload_n 0, 1) := by decide +kernel
theorem dd_213_14 : decode (mB 213) 14 = .ok (.getfield 105, 3) := by decide +kernel
theorem dd_213_17 : decode (mB 213) 17 = .ok (.iload_n 2, 1) := by decide +kernel
theorem dd_213_18 : decode (mB 213) 18 = .ok (.iaload, 1) := by decide +kernel
theorem dd_213_19 : decode (mB 213) 19 = .ok (.ifCond .lt 12, 3) := by decide +kernel
theorem dd_213_22 : decode (mB 213) 22 = .ok (.aload_n 0, 1) := by decide +kernel
theorem dd_213_23 : decode (mB 213) 23 = .ok (.getfield 114, 3) := by decide +kernel
theorem dd_213_26 : decode (mB 213) 26 = .ok (.iload_n 2, 1) := by decide +kernel
theorem dd_213_27 : decode (mB 213) 27 = .ok (.iaload, 1) := by decide +kernel
theorem dd_213_28 : decode (mB 213) 28 = .ok (.goto 4, 3) := by decide +kernel
theorem dd_213_31 : decode (mB 213) 31 = .ok (.iconst 0, 1) := by decide +kernel
theorem dd_213_32 : decode (mB 213) 32 = .ok (.iadd, 1) := by decide +kernel
theorem dd_213_33 : decode (mB 213) 33 = .ok (.istore_n 1, 1) := by decide +kernel
theorem dd_213_34 : decode (mB 213) 34 = .ok (.iinc 2 1, 3) := by decide +kernel
theorem dd_213_37 : decode (mB 213) 37 = .ok (.goto (-33), 3) := by decide +kernel
theorem dd_213_40 : decode (mB 213) 40 = .ok (.iload_n 1, 1) := by decide +kernel
theorem dd_213_41 : decode (mB 213) 41 = .ok (.ireturn, 1) := by decide +kernel
theorem dd_214_0 : decode (mB 214) 0 = .ok (.iconst 0, 1) := by decide +kernel
theorem dd_214_1 : decode (mB 214) 1 = .ok (.istore_n 1, 1) := by decide +kernel
theorem dd_214_2 : decode (mB 214) 2 = .ok (.iconst 0, 1) := by decide +kernel
theorem dd_214_3 : decode (mB 214) 3 = .ok (.istore_n 2, 1) := by decide +kernel
theorem dd_214_4 : decode (mB 214) 4 = .ok (.iload_n 2, 1) := by decide +kernel
theorem dd_214_5 : decode (mB 214) 5 = .ok (.aload_n 0, 1) := by decide +kernel
theorem dd_214_6 : decode (mB 214) 6 = .ok (.getfield 372, 3) := by decide +kernel
theorem dd_214_9 : decode (mB 214) 9 = .ok (.if_icmp .ge 17, 3) := by decide +kernel
theorem dd_214_12 : decode (mB 214) 12 = .ok (.iload_n 1, 1) := by decide +kernel
theorem dd_214_13 : decode (mB 214) 13 = .ok (.aload_n 0, 1) := by decide +kernel
theorem dd_214_14 : decode (mB 214) 14 = .ok (.iload_n 2, 1) := by decide +kernel
theorem dd_214_15 : decode (mB 214) 15 = .ok (.invokevirtual 475, 3) := by decide +kernel
theorem dd_214_18 : decode (mB 214) 18 = .ok (.iadd, 1) := by decide +kernel
theorem dd_214_19 : decode (mB 214) 19 = .ok (.istore_n 1, 1) := by decide +kernel
theorem dd_214_20 : decode (mB 214) 20 = .ok (.iinc 2 1, 3) := by decide +kernel
theorem dd_214_23 : decode (mB 214) 23 = .ok (.goto (-19), 3) := by decide +kernel
theorem dd_214_26 : decode (mB 214) 26 = .ok (.iload_n 1, 1) := by decide +kernel
theorem dd_214_27 : decode (mB 214) 27 = .ok (.ireturn, 1) := by decide +kernel
theorem dd_215_0 : decode (mB 215) 0 = .ok (.iload_n 1, 1) := by decide +kernel
theorem dd_215_1 : decode (mB 215) 1 = .ok (.i2l, 1) := by decide +kernel
theorem dd_215_2 : decode (mB 215) 2 = .ok (.lconst 0, 1) := by decide +kernel
theorem dd_215_3 : decode (mB 215) 3 = .ok (.ldc2_w 211, 3) := by decide +kernel
theorem dd_215_6 : decode (mB 215) 6 = .ok (.invokestatic 183, 3) := by decide +kernel
theorem dd_215_9 : decode (mB 215) 9 = .ok (.ifCond .ne 6, 3) := by decide +kernel
theorem dd_215_12 : decode (mB 215) 12 = .ok (.ldc 200, 2) := by decide +kernel
theorem dd_215_14 : decode (mB 215) 14 = .ok (.ireturn, 1) := by decide +kernel
theorem dd_215_15 : decode (mB 215) 15 = .ok (.iconst 0, 1) := by decide +kernel
theorem dd_215_16 : decode (mB 215) 16 = .ok (.istore_n 2, 1) := by decide +kernel
theorem dd_215_17 : decode (mB 215) 17 = .ok (.iconst 0, 1) := by decide +kernel
theorem dd_215_18 : decode (mB 215) 18 = .ok (.istore_n 3, 1) := by decide +kernel
theorem dd_215_19 : decode (mB 215) 19 = .ok (.iconst 0, 1) := by decide +kernel
theorem dd_215_20 : decode (mB 215) 20 = .ok (.istore 4, 2) := by decide +kernel
theorem dd_215_22 : decode (mB 215) 22 = .ok (.iconst 0, 1) := by decide +kernel
theorem dd_215_23 : decode (mB 215) 23 = .ok (.istore 5, 2) := by decide +kernel
theorem dd_215_25 : decode (mB 215) 25 = .ok (.iload 5, 2) := by decide +kernel
theorem dd_215_27 : decode (mB 215) 27 = .ok (.aload_n 0, 1) := by decide +kernel
theorem dd_215_28 : decode (mB 215) 28 = .ok (.getfield 372, 3) := by decide +kernel
theorem dd_215_31 : decode (mB 215) 31 = .ok (.if_icmp .ge 73, 3) := by decide +kernel
theorem dd_215_34 : decode (mB 215) 34 = .ok (.aload_n 0, 1) := by decide +kernel
theorem dd_215_35 : decode (mB 215) 35 = .ok (.getfield 108, 3) := by decide +kernel
theorem dd_215_38 : decode (mB 215) 38 = .ok (.iload 5, 2) := by decide +kernel
theorem dd_215_40 : decode (mB 215) 40 = .ok (.iaload, 1) := by decide +kernel
theorem dd_215_41 : decode (mB 215) 41 = .ok (.ifCond .lt 57, 3) := by decide +kernel
theorem dd_215_44 : decode (mB 215) 44 = .ok (.aload_n 0, 1) := by decide +kernel
theorem dd_215_45 : decode (mB 215) 45 = .ok (.getfield 99, 3) := by decide +kernel
theorem dd_215_48 : decode (mB 215) 48 = .ok (.iload 5, 2) := by decide +kernel
theorem dd_215_50 : decode (mB 215) 50 = .ok (.iaload, 1) := by decide +kernel
theorem dd_215_51 : decode (mB 215) 51 = .ok (.aload_n 0, 1) := by decide +kernel
theorem dd_215_52 : decode (mB 215) 52 = .ok (.getfield 114, 3) := by decide +kernel
theorem dd_215_55 : decode (mB 215) 55 = .ok (.iload 5, 2) := by decide +kernel
theorem dd_215_57 : decode (mB 215) 57 = .ok (.iaload, 1) := by decide +kernel
theorem dd_215_58 : decode (mB 215) 58 = .ok (.isub, 1) := by decide +kernel
theorem dd_215_59 : decode (mB 215) 59 = .ok (.istore 6, 2) := by decide +kernel
theorem dd_215_61 : decode (mB 215) 61 = .ok (.iload 6, 2) := by decide +kernel
theorem dd_215_63 : decode (mB 215) 63 = .ok (.ifCond .ge 10, 3) := by decide +kernel
theorem dd_215_66 : decode (mB 215) 66 = .ok (.iconst 0, 1) := by decide +kernel
theorem dd_215_67 : decode (mB 215) 67 = .ok (.iload 6, 2) := by decide +kernel
theorem dd_215_69 : decode (mB 215) 69 = .ok (.isub, 1) := by decide +kernel
theorem dd_215_70 : decode (mB 215) 70 = .ok (.goto 5, 3) := by decide +kernel
theorem dd_215_73 : decode (mB 215) 73 = .ok (.iload 6, 2) := by decide +kernel
theorem dd_215_75 : decode (mB 215) 75 = .ok (.istore 6, 2) := by decide +kernel
theorem dd_215_77 : decode (mB 215) 77 = .ok (.iload_n 2, 1) := by decide +kernel
theorem dd_215_78 : decode (mB 215) 78 = .ok (.iload 6, 2) := by decide +kernel
theorem dd_215_80 : decode (mB 215) 80 = .ok (.iadd, 1) := by decide +kernel
theorem dd_215_81 : decode (mB 215) 81 = .ok (.istore_n 2, 1) := by decide +kernel
theorem dd_215_82 : decode (mB 215) 82 = .ok (.iload 6, 2) := by decide +kernel
theorem dd_215_84 : decode (mB 215) 84 = .ok (.iload_n 3, 1) := by decide +kernel
theorem dd_215_85 : decode (mB 215) 85 = .ok (.if_icmp .le 8, 3) := by decide +kernel
theorem dd_215_88 : decode (mB 215) 88 = .ok (.iload 6, 2) := by decide +kernel
theorem dd_215_90 : decode (mB 215) 90 = .ok (.goto 4, 3) := by decide +kernel
theorem dd_215_93 : decode (mB 215) 93 = .ok (.iload_n 3, 1) := by decide +kernel
theorem dd_215_94 : decode (mB 215) 94 = .ok (.istore_n 3, 1) := by decide +kernel
theorem dd_215_95 : decode (mB 215) 95 = .ok (.iinc 4 1, 3) := by decide +kernel
theorem dd_215_98 : decode (mB 215) 98 = .ok (.iinc 5 1, 3) := by decide +kernel
theorem dd_215_101 : decode (mB 215) 101 = .ok (.goto (-76), 3) := by decide +kernel
theorem dd_215_104 : decode (mB 215) 104 = .ok (.iload_n 1, 1) := by decide +kernel
theorem dd_215_105 : decode (mB 215) 105 = .ok (.ifCond .ne 7, 3) := by decide +kernel
theorem dd_215_108 : decode (mB 215) 108 = .ok (.iload_n 2, 1) := by decide +kernel
theorem dd_215_109 : decode (mB 215) 109 = .ok (.goto 14, 3) := by decide +kernel
theorem dd_215_112 : decode (mB 215) 112 = .ok (.iload_n 1, 1) := by decide +kernel
theorem dd_215_113 : decode (mB 215) 113 = .ok (.iconst 1, 1) := by decide +kernel
theorem dd_215_114 : decode (mB 215) 114 = .ok (.if_icmp .ne 7, 3) := by decide +kernel
theorem dd_215_117 : decode (mB 215) 117 = .ok (.iload_n 3, 1) := by decide +kernel
theorem dd_215_118 : decode (mB 215) 118 = .ok (.goto 5, 3) := by decide +kernel
theorem dd_215_121 : decode (mB 215) 121 = .ok (.iload 4, 2) := by decide +kernel
theorem dd_215_123 : decode (mB 215) 123 = .ok (.ireturn, 1) := by decide +kernel
theorem dd_216_0 : decode (mB 216) 0 = .ok (.iload_n 1, 1) := by decide +kernel
theorem dd_216_1 : decode (mB 216) 1 = .ok (.invokestatic 192, 3) := by decide +kernel
theorem dd_216_4 : decode (mB 216) 4 = .ok (.ifCond .eq 10, 3) := by decide +kernel
theorem dd_216_7 : decode (mB 216) 7 = .ok (.iload_n 2, 1) := by decide +kernel
theorem dd_216_8 : decode (mB 216) 8 = .ok (.invokestatic 192, 3) := by decide +kernel
theorem dd_216_11 : decode (mB 216) 11 = .ok (.ifCond .ne 6, 3) := by decide +kernel
theorem dd_216_14 : decode (mB 216) 14 = .ok (.ldc 196, 2) := by decide +kernel
theorem dd_216_16 : decode (mB 216) 16 = .ok (.ireturn, 1) := by decide +kernel
theorem dd_216_17 : decode (mB 216) 17 = .ok (.iload_n 1, 1) := by decide +kernel
theorem dd_216_18 : decode (mB 216) 18 = .ok (.iload_n 2, 1) := by decide +kernel
theorem dd_216_19 : decode (mB 216) 19 = .ok (.if_icmp .eq 28, 3) := by decide +kernel
theorem dd_216_22 : decode (mB 216) 22 = .ok (.iload_n 3, 1) := by decide +kernel
theorem dd_216_23 : decode (mB 216) 23 = .ok (.i2l, 1) := by decide +kernel
theorem dd_216_24 : decode (mB 216) 24 = .ok (.lconst 0, 1) := by decide +kernel
theorem dd_216_25 : decode (mB 216) 25 = .ok (.ldc2_w 493, 3) := by decide +kernel
theorem dd_216_28 : decode (mB 216) 28 = .ok (.invokestatic 183, 3) := by decide +kernel
theorem dd_216_31 : decode (mB 216) 31 = .ok (.ifCond .eq 16, 3) := by decide +kernel
theorem dd_216_34 : decode (mB 216) 34 = .ok (.iload 4, 2) := by decide +kernel
theorem dd_216_36 : decode (mB 216) 36 = .ok (.i2l, 1) := by decide +kernel
theorem dd_216_37 : decode (mB 216) 37 = .ok (.lconst 0, 1) := by decide +kernel
theorem dd_216_38 : decode (mB 216) 38 = .ok (.ldc2_w 493, 3) := by decide +kernel
theorem dd_216_41 : decode (mB 216) 41 = .ok (.invokestatic 183, 3) := by decide +kernel
theorem dd_216_44 : decode (mB 216) 44 = .ok (.ifCond .ne 6, 3) := by decide +kernel
theorem dd_216_47 : decode (mB 216) 47 = .ok (.ldc 200, 2) := by decide +kernel
theorem dd_216_49 : decode (mB 216) 49 = .ok (.ireturn, 1) := by decide +kernel
theorem dd_216_50 : decode (mB 216) 50 = .ok (.aload_n 0, 1) := by decide +kernel
theorem dd_216_51 : decode (mB 216) 51 = .ok (.getfield 481, 3) := by decide +kernel
theorem dd_216_54 : decode (mB 216) 54 = .ok (.bipush 40, 2) := by decide +kernel
theorem dd_216_56 : decode (mB 216) 56 = .ok (.if_icmp .ne 6, 3) := by decide +kernel
theorem dd_216_59 : decode (mB 216) 59 = .ok (.ldc 201, 2) := by decide +kernel
theorem dd_216_61 : decode (mB 216) 61 = .ok (.ireturn, 1) := by decide +kernel
theorem dd_216_62 : decode (mB 216) 62 = .ok (.aload_n 0, 1) := by decide +kernel
theorem dd_216_63 : decode (mB 216) 63 = .ok (.dup, 1) := by decide +kernel
theorem dd_216_64 : decode (mB 216) 64 = .ok (.getfield 481, 3) := by decide +kernel
theorem dd_216_67 : decode (mB 216) 67 = .ok (.iconst 1, 1) := by decide +kernel
theorem dd_216_68 : decode (mB 216) 68 = .ok (.iadd, 1) := by decide +kernel
theorem dd_216_69 : decode (mB 216) 69 = .ok (.putfield 481, 3) := by decide +kernel
theorem dd_216_72 : decode (mB 216) 72 = .ok (.iload 4, 2) := by decide +kernel
theorem dd_216_74 : decode (mB 216) 74 = .ok (.iload_n 3, 1) := by decide +kernel
theorem dd_216_75 : decode (mB 216) 75 = .ok (.isub, 1) := by decide +kernel
theorem dd_216_76 : decode (mB 216) 76 = .ok (.iconst 1, 1) := by decide +kernel
theorem dd_216_77 : decode (mB 216) 77 = .ok (.iadd, 1) := by decide +kernel
theorem dd_216_78 : decode (mB 216) 78 = .ok (.istore 5, 2) := by decide +kernel
theorem dd_216_80 : decode (mB 216) 80 = .ok (.iload_n 3, 1) := by decide +kernel
theorem dd_216_81 : decode (mB 216) 81 = .ok (.iload 4, 2) := by decide +kernel
theorem dd_216_83 : decode (mB 216) 83 = .ok (.isub, 1) := by decide +kernel
theorem dd_216_84 : decode (mB 216) 84 = .ok (.iconst 1, 1) := by decide +kernel
theorem dd_216_85 : decode (mB 216) 85 = .ok (.iadd, 1) := by decide +kernel
theorem dd_216_86 : decode (mB 216) 86 = .ok (.istore 6, 2) := by decide +kernel
theorem dd_216_88 : decode (mB 216) 88 = .ok (.aload_n 0, 1) := by decide +kernel
theorem dd_216_89 : decode (mB 216) 89 = .ok (.getfield 153, 3) := by decide +kernel
theorem dd_216_92 : decode (mB 216) 92 = .ok (.iload_n 1, 1) := by decide +kernel
theorem dd_216_93 : decode (mB 216) 93 = .ok (.iload_n 2, 1) := by decide +kernel
theorem dd_216_94 : decode (mB 216) 94 = .ok (.invokestatic 495, 3) := by decide +kernel
theorem dd_216_97 : decode (mB 216) 97 = .ok (.iload 5, 2) := by decide +kernel
theorem dd_216_99 : decode (mB 216) 99 = .ok (.aload_n 0, 1) := by decide +kernel
theorem dd_216_100 : decode (mB 216) 100 = .ok (.getfield 153, 3) := by decide +kernel
theorem dd_216_103 : decode (mB 216) 103 = .ok (.iload_n 1, 1) := by decide +kernel
theorem dd_216_104 : decode (mB 216) 104 = .ok (.iload_n 2, 1) := by decide +kernel
theorem dd_216_105 : decode (mB 216) 105 = .ok (.invokestatic 495, 3) := by decide +kernel
theorem dd_216_108 : decode (mB 216) 108 = .ok (.iaload, 1) := by decide +kernel
theorem dd_216_109 : decode (mB 216) 109 = .ok (.if_icmp .ge 8, 3) := by decide +kernel
theorem dd_216_112 : decode (mB 216) 112 = .ok (.iload 5, 2) := by decide +kernel
theorem dd_216_114 : decode (mB 216) 114 = .ok (.goto 13, 3) := by decide +kernel
theorem dd_216_117 : decode (mB 216) 117 = .ok (.aload_n 0, 1) := by decide +kernel
theorem dd_216_118 : decode (mB 216) 118 = .ok (.getfield 153, 3) := by decide +kernel
theorem dd_216_121 : decode (mB 216) 121 = .ok (.iload_n 1, 1) := by decide +kernel
theorem dd_216_122 : decode (mB 216) 122 = .ok (.iload_n 2, 1) := by decide +kernel
theorem dd_216_123 : decode (mB 216) 123 = .ok (.invokestatic 495, 3) := by decide +kernel
theorem dd_216_126 : decode (mB 216) 126 = .ok (.iaload, 1) := by decide +kernel
theorem dd_216_127 : decode (mB 216) 127 = .ok (.iastore, 1) := by decide +kernel
theorem dd_216_128 : decode (mB 216) 128 = .ok (.aload_n 0, 1) := by decide +kernel
theorem dd_216_129 : decode (mB 216) 129 = .ok (.getfield 153, 3) := by decide +kernel
theorem dd_216_132 : decode (mB 216) 132 = .ok (.iload_n 2, 1) := by decide +kernel
theorem dd_216_133 : decode (mB 216) 133 = .ok (.iload_n 1, 1) := by decide +kernel
theorem dd_216_134 : decode (mB 216) 134 = .ok (.invokestatic 495, 3) := by decide +kernel
theorem dd_216_137 : decode (mB 216) 137 = .ok (.iload 6, 2) := by decide +kernel
theorem dd_216_139 : decode (mB 216) 139 = .ok (.aload_n 0, 1) := by decide +kernel
theorem dd_216_140 : decode (mB 216) 140 = .ok (.getfield 153, 3) := by decide +kernel
theorem dd_216_143 : decode (mB 216) 143 = .ok (.iload_n 2, 1) := by decide +kernel
theorem dd_216_144 : decode (mB 216) 144 = .ok (.iload_n 1, 1) := by decide +kernel
theorem dd_216_145 : decode (mB 216) 145 = .ok (.invokestatic 495, 3) := by decide +kernel
theorem dd_216_148 : decode (mB 216) 148 = .ok (.iaload, 1) := by decide +kernel
theorem dd_216_149 : decode (mB 216) 149 = .ok (.if_icmp .ge 8, 3) := by decide +kernel
theorem dd_216_152 : decode (mB 216) 152 = .ok (.iload 6, 2) := by decide +kernel
theorem dd_216_154 : decode (mB 216) 154 = .ok (.goto 13, 3) := by decide +kernel
theorem dd_216_157 : decode (mB 216) 157 = .ok (.aload_n 0, 1) := by decide +kernel
theorem dd_216_158 : decode (mB 216) 158 = .ok (.getfield 153, 3) := by decide +kernel
theorem dd_216_161 : decode (mB 216) 161 = .ok (.iload_n 2, 1) := by decide +kernel
theorem dd_216_162 : decode (mB 216) 162 = .ok (.iload_n 1, 1) := by decide +kernel
theorem dd_216_163 : decode (mB 216) 163 = .ok (.invokestatic 495, 3) := by decide +kernel
theorem dd_216_166 : decode (mB 216) 166 = .ok (.iaload, 1) := by decide +kernel
theorem dd_216_167 : decode (mB 216) 167 = .ok (.iastore, 1) := by decide +kernel
theorem dd_216_168 : decode (mB 216) 168 = .ok (.aload_n 0, 1) := by decide +kernel
theorem dd_216_169 : decode (mB 216) 169 = .ok (.getfield 481, 3) := by decide +kernel
theorem dd_216_172 : decode (mB 216) 172 = .ok (.ireturn, 1) := by decide +kernel
theorem dd_217_0 : decode (mB 217) 0 = .ok (.bipush 9, 2) := by decide +kernel
theorem dd_217_2 : decode (mB 217) 2 = .ok (.iload_n 0, 1) := by decide +kernel
theorem dd_217_3 : decode (mB 217) 3 = .ok (.imul, 1) := by decide +kernel
theorem dd_217_4 : decode (mB 217) 4 = .ok (.iload_n 1, 1) := by decide +kernel
theorem dd_217_5 : decode (mB 217) 5 = .ok (.iadd, 1) := by decide +kernel
theorem dd_217_6 : decode (mB 217) 6 = .ok (.ireturn, 1) := by decide +kernel
theorem dd_218_0 : decode (mB 218) 0 = .ok (.iload_n 1, 1) := by decide +kernel
theorem dd_218_1 : decode (mB 218) 1 = .ok (.invokestatic 192, 3) := by decide +kernel
theorem dd_218_4 : decode (mB 218) 4 = .ok (.ifCond .eq 10, 3) := by decide +kernel
theorem dd_218_7 : decode (mB 218) 7 = .ok (.iload_n 2, 1) := by decide +kernel
theorem dd_218_8 : decode (mB 218) 8 = .ok (.invokestatic 192, 3) := by decide +kernel
theorem dd_218_11 : decode (mB 218) 11 = .ok (.ifCond .ne 6, 3) := by decide +kernel
theorem dd_218_14 : decode (mB 218) 14 = .ok (.ldc 196, 2) := by decide +kernel
theorem dd_218_16 : decode (mB 218) 16 = .ok (.ireturn, 1) := by decide +kernel
theorem dd_218_17 : decode (mB 218) 17 = .ok (.iload_n 3, 1) := by decide +kernel
theorem dd_218_18 : decode (mB 218) 18 = .ok (.i2l, 1) := by decide +kernel
theorem dd_218_19 : decode (mB 218) 19 = .ok (.lconst 0, 1) := by decide +kernel
theorem dd_218_20 : decode (mB 218) 20 = .ok (.ldc2_w 211, 3) := by decide +kernel
theorem dd_218_23 : decode (mB 218) 23 = .ok (.invokestatic 183, 3) := by decide +kernel
theorem dd_218_26 : decode (mB 218) 26 = .ok (.ifCond .ne 6, 3) := by decide +kernel
theorem dd_218_29 : decode (mB 218) 29 = .ok (.ldc 200, 2) := by decide +kernel
theorem dd_218_31 : decode (mB 218) 31 = .ok (.ireturn, 1) := by decide +kernel
theorem dd_218_32 : decode (mB 218) 32 = .ok (.aload_n 0, 1) := by decide +kernel
theorem dd_218_33 : decode (mB 218) 33 = .ok (.invokevirtual 502, 3) := by decide +kernel
theorem dd_218_36 : decode (mB 218) 36 = .ok (.iload_n 1, 1) := by decide +kernel
theorem dd_218_37 : decode (mB 218) 37 = .ok (.iload_n 2, 1) := by decide +kernel
theorem dd_218_38 : decode (mB 218) 38 = .ok (.if_icmp .eq 18, 3) := by decide +kernel
theorem dd_218_41 : decode (mB 218) 41 = .ok (.aload_n 0, 1) := by decide +kernel
theorem dd_218_42 : decode (mB 218) 42 = .ok (.getfield 156, 3) := by decide +kernel
theorem dd_218_45 : decode (mB 218) 45 = .ok (.iload_n 1, 1) := by decide +kernel
theorem dd_218_46 : decode (mB 218) 46 = .ok (.iload_n 2, 1) := by decide +kernel
theorem dd_218_47 : decode (mB 218) 47 = .ok (.invokestatic 495, 3) := by decide +kernel
theorem dd_218_50 : decode (mB 218) 50 = .ok (.iaload, 1) := by decide +kernel
theorem dd_218_51 : decode (mB 218) 51 = .ok (.ldc 180, 2) := by decide +kernel
theorem dd_218_53 : decode (mB 218) 53 = .ok (.if_icmp .ge 7, 3) := by decide +kernel
theorem dd_218_56 : decode (mB 218) 56 = .ok (.iconst 1, 1) := by decide +kernel
theorem dd_218_57 : decode (mB 218) 57 = .ok (.goto 4, 3) := by decide +kernel
theorem dd_218_60 : decode (mB 218) 60 = .ok (.iconst 0, 1) := by decide +kernel
theorem dd_218_61 : decode (mB 218) 61 = .ok (.istore 4, 2) := by decide +kernel
theorem dd_218_63 : decode (mB 218) 63 = .ok (.iload_n 3, 1) := by decide +kernel
theorem dd_218_64 : decode (mB 218) 64 = .ok (.iconst 2, 1) := by decide +kernel
theorem dd_218_65 : decode (mB 218) 65 = .ok (.if_icmp .ne 21, 3) := by decide +kernel
theorem dd_218_68 : decode (mB 218) 68 = .ok (.aload_n 0, 1) := by decide +kernel
theorem dd_218_69 : decode (mB 218) 69 = .ok (.getfield 499, 3) := by decide +kernel
theorem dd_218_72 : decode (mB 218) 72 = .ok (.ifCond .eq 8, 3) := by decide +kernel
theorem dd_218_75 : decode (mB 218) 75 = .ok (.bipush (-2), 2) := by decide +kernel
theorem dd_218_77 : decode (mB 218) 77 = .ok (.goto 8, 3) := by decide +kernel
theorem dd_218_80 : decode (mB 218) 80 = .ok (.iload 4, 2) := by decide +kernel
theorem dd_218_82 : decode (mB 218) 82 = .ok (.invokestatic 314, 3) := by decide +kernel
theorem dd_218_85 : decode (mB 218) 85 = .ok (.ireturn, 1) := by decide +kernel
theorem dd_218_86 : decode (mB 218) 86 = .ok (.aload_n 0, 1) := by decide +kernel
theorem dd_218_87 : decode (mB 218) 87 = .ok (.getfield 499, 3) := by decide +kernel
theorem dd_218_90 : decode (mB 218) 90 = .ok (.ifCond .ne 8, 3) := by decide +kernel
theorem dd_218_93 : decode (mB 218) 93 = .ok (.iload 4, 2) := by decide +kernel
theorem dd_218_95 : decode (mB 218) 95 = .ok (.ifCond .ne 7, 3) := by decide +kernel
theorem dd_218_98 : decode (mB 218) 98 = .ok (.ldc_w 389, 3) := by decide +kernel
theorem dd_218_101 : decode (mB 218) 101 = .ok (.ireturn, 1) := by decide +kernel
theorem dd_218_102 : decode (mB 218) 102 = .ok (.iload_n 1, 1) := by decide +kernel
theorem dd_218_103 : decode (mB 218) 103 = .ok (.iload_n 2, 1) := by decide +kernel
theorem dd_218_104 : decode (mB 218) 104 = .ok (.if_icmp .ne 13, 3) := by decide +kernel
theorem dd_218_107 : decode (mB 218) 107 = .ok (.iload_n 3, 1) := by decide +kernel
theorem dd_218_108 : decode (mB 218) 108 = .ok (.ifCond .ne 7, 3) := by decide +kernel
theorem dd_218_111 : decode (mB 218) 111 = .ok (.iconst (-1), 1) := by decide +kernel
theorem dd_218_112 : decode (mB 218) 112 = .ok (.goto 4, 3) := by decide +kernel
theorem dd_218_115 : decode (mB 218) 115 = .ok (.iconst 1, 1) := by decide +kernel
theorem dd_218_116 : decode (mB 218) 116 = .ok (.ireturn, 1) := by decide +kernel
theorem dd_218_117 : decode (mB 218) 117 = .ok (.iload_n 3, 1) := by decide +kernel
theorem dd_218_118 : decode (mB 218) 118 = .ok (.ifCond .ne 18, 3) := by decide +kernel
theorem dd_218_121 : decode (mB 218) 121 = .ok (.iconst 0, 1) := by decide +kernel
theorem dd_218_122 : decode (mB 218) 122 = .ok (.aload_n 0, 1) := by decide +kernel
theorem dd_218_123 : decode (mB 218) 123 = .ok (.getfield 156, 3) := by decide +kernel
theorem dd_218_126 : decode (mB 218) 126 = .ok (.iload_n 2, 1) := by decide +kernel
theorem dd_218_127 : decode (mB 218) 127 = .ok (.iload_n 1, 1) := by decide +kernel
theorem dd_218_128 : decode (mB 218) 128 = .ok (.invokestatic 495, 3) := by decide +kernel
theorem dd_218_131 : decode (mB 218) 131 = .ok (.iaload, 1) := by decide +kernel
theorem dd_218_132 : decode (mB 218) 132 = .ok (.isub, 1) := by decide +kernel
theorem dd_218_133 : decode (mB 218) 133 = .ok (.goto 13, 3) := by decide +kernel
theorem dd_218_136 : decode (mB 218) 136 = .ok (.aload_n 0, 1) := by decide +kernel
theorem dd_218_137 : decode (mB 218) 137 = .ok (.getfield 156, 3) := by decide +kernel
theorem dd_218_140 : decode (mB 218) 140 = .ok (.iload_n 1, 1) := by decide +kernel
theorem dd_218_141 : decode (mB 218) 141 = .ok (.iload_n 2, 1) := by decide +kernel
theorem dd_218_142 : decode (mB 218) 142 = .ok (.invokestatic 495, 3) := by decide +kernel
theorem dd_218_145 : decode (mB 218) 145 = .ok (.iaload, 1) := by decide +kernel
theorem dd_218_146 : decode (mB 218) 146 = .ok (.ireturn, 1) := by decide +kernel
theorem dd_219_0 : decode (mB 219) 0 = .ok (.iconst 0, 1) := by decide +kernel
theorem dd_219_1 : decode (mB 219) 1 = .ok (.istore_n 1, 1) := by decide +kernel
theorem dd_219_2 : decode (mB 219) 2 = .ok (.iload_n 1, 1) := by decide +kernel
theorem dd_219_3 : decode (mB 219) 3 = .ok (.bipush 81, 2) := by decide +kernel
theorem dd_219_5 : decode (mB 219) 5 = .ok (.if_icmp .ge 21, 3) := by decide +kernel
theorem dd_219_8 : decode (mB 219) 8 = .ok (.aload_n 0, 1) := by decide +kernel
theorem dd_219_9 : decode (mB 219) 9 = .ok (.getfield 156, 3) := by decide +kernel
theorem dd_219_12 : decode (mB 219) 12 = .ok (.iload_n 1, 1) := by decide +kernel
theorem dd_219_13 : decode (mB 219) 13 = .ok (.aload_n 0, 1) := by decide +kernel
theorem dd_219_14 : decode (mB 219) 14 = .ok (.getfield 153, 3) := by decide +kernel
theorem dd_219_17 : decode (mB 219) 17 = .ok (.iload_n 1, 1) := by decide +kernel
theorem dd_219_18 : decode (mB 219) 18 = .ok (.iaload, 1) := by decide +kernel
theorem dd_219_19 : decode (mB 219) 19 = .ok (.iastore, 1) := by decide +kernel
theorem dd_219_20 : decode (mB 219) 20 = .ok (.iinc 1 1, 3) := by decide +kernel
theorem dd_219_23 : decode (mB 219) 23 = .ok (.goto (-21), 3) := by decide +kernel
theorem dd_219_26 : decode (mB 219) 26 = .ok (.iconst 0, 1) := by decide +kernel
theorem dd_219_27 : decode (mB 219) 27 = .ok (.istore_n 1, 1) := by decide +kernel
theorem dd_219_28 : decode (mB 219) 28 = .ok (.iload_n 1, 1) := by decide +kernel
theorem dd_219_29 : decode (mB 219) 29 = .ok (.bipush 8, 2) := by decide +kernel
theorem dd_219_31 : decode (mB 219) 31 = .ok (.if_icmp .ge 148, 3) := by decide +kernel
theorem dd_219_34 : decode (mB 219) 34 = .ok (.iconst 0, 1) := by decide +kernel
theorem dd_219_35 : decode (mB 219) 35 = .ok (.istore_n 2, 1) := by decide +kernel
theorem dd_219_36 : decode (mB 219) 36 = .ok (.iload_n 2, 1) := by decide +kernel
theorem dd_219_37 : decode (mB 219) 37 = .ok (.bipush 8, 2) := by decide +kernel
theorem dd_219_39 : decode (mB 219) 39 = .ok (.if_icmp .ge 134, 3) := by decide +kernel
theorem dd_219_42 : decode (mB 219) 42 = .ok (.iconst 0, 1) := by decide +kernel
theorem dd_219_43 : decode (mB 219) 43 = .ok (.istore_n 3, 1) := by decide +kernel
theorem dd_219_44 : decode (mB 219) 44 = .ok (.iload_n 3, 1) := by decide +kernel
theorem dd_219_45 : decode (mB 219) 45 = .ok (.bipush 8, 2) := by decide +kernel
theorem dd_219_47 : decode (mB 219) 47 = .ok (.if_icmp .ge 120, 3) := by decide +kernel
theorem dd_219_50 : decode (mB 219) 50 = .ok (.aload_n 0, 1) := by decide +kernel
theorem dd_219_51 : decode (mB 219) 51 = .ok (.getfield 156, 3) := by decide +kernel
theorem dd_219_54 : decode (mB 219) 54 = .ok (.iload_n 2, 1) := by decide +kernel
theorem dd_219_55 : decode (mB 219) 55 = .ok (.iload_n 1, 1) := by decide +kernel
theorem dd_219_56 : decode (mB 219) 56 = .ok (.invokestatic 495, 3) := by decide +kernel
theorem dd_219_59 : decode (mB 219) 59 = .ok (.iaload, 1) := by decide +kernel
theorem dd_219_60 : decode (mB 219) 60 = .ok (.ldc 180, 2) := by decide +kernel
theorem dd_219_62 : decode (mB 219) 62 = .ok (.if_icmp .ge 99, 3) := by decide +kernel
theorem dd_219_65 : decode (mB 219) 65 = .ok (.aload_n 0, 1) := by decide +kernel
theorem dd_219_66 : decode (mB 219) 66 = .ok (.getfield 156, 3) := by decide +kernel
theorem dd_219_69 : decode (mB 219) 69 = .ok (.iload_n 1, 1) := by decide +kernel
theorem dd_219_70 : decode (mB 219) 70 = .ok (.iload_n 3, 1) := by decide +kernel
theorem dd_219_71 : decode (mB 219) 71 = .ok (.invokestatic 495, 3) := by decide +kernel
theorem dd_219_74 : decode (mB 219) 74 = .ok (.iaload, 1) := by decide +kernel
theorem dd_219_75 : decode (mB 219) 75 = .ok (.ldc 180, 2) := by decide +kernel
theorem dd_219_77 : decode (mB 219) 77 = .ok (.if_icmp .ge 84, 3) := by decide +kernel
theorem dd_219_80 : decode (mB 219) 80 = .ok (.aload_n 0, 1) := by decide +kernel
theorem dd_219_81 : decode (mB 219) 81 = .ok (.getfield 156, 3) := by decide +kernel
theorem dd_219_84 : decode (mB 219) 84 = .ok (.iload_n 2, 1) := by decide +kernel
theorem dd_219_85 : decode (mB 219) 85 = .ok (.iload_n 1, 1) := by decide +kernel
theorem dd_219_86 : decode (mB 219) 86 = .ok (.invokestatic 495, 3) := by decide +kernel
theorem dd_219_89 : decode (mB 219) 89 = .ok (.iaload, 1) := by decide +kernel
theorem dd_219_90 : decode (mB 219) 90 = .ok (.aload_n 0, 1) := by decide +kernel
theorem dd_219_91 : decode (mB 219) 91 = .ok (.getfield 156, 3) := by decide +kernel
theorem dd_219_94 : decode (mB 219) 94 = .ok (.iload_n 1, 1) := by decide +kernel
theorem dd_219_95 : decode (mB 219) 95 = .ok (.iload_n 3, 1) := by decide +kernel
theorem dd_219_96 : decode (mB 219) 96 = .ok (.invokestatic 495, 3) := by decide +kernel
theorem dd_219_99 : decode (mB 219) 99 = .ok (.iaload, 1) := by decide +kernel
theorem dd_219_100 : decode (mB 219) 100 = .ok (.iadd, 1) := by decide +kernel
theorem dd_219_101 : decode (mB 219) 101 = .ok (.istore 4, 2) := by decide +kernel
theorem dd_219_103 : decode (mB 219) 103 = .ok (.iload 4, 2) := by decide +kernel
theorem dd_219_105 : decode (mB 219) 105 = .ok (.ldc_w 498, 3) := by decide +kernel
theorem dd_219_108 : decode (mB 219) 108 = .ok (.if_icmp .ge 9, 3) := by decide +kernel
theorem dd_219_111 : decode (mB 219) 111 = .ok (.ldc_w 498, 3) := by decide +kernel
theorem dd_219_114 : decode (mB 219) 114 = .ok (.goto 5, 3) := by decide +kernel
theorem dd_219_117 : decode (mB 219) 117 = .ok (.iload 4, 2) := by decide +kernel
theorem dd_219_119 : decode (mB 219) 119 = .ok (.istore 4, 2) := by decide +kernel
theorem dd_219_121 : decode (mB 219) 121 = .ok (.aload_n 0, 1) := by decide +kernel
theorem dd_219_122 : decode (mB 219) 122 = .ok (.getfield 156, 3) := by decide +kernel
theorem dd_219_125 : decode (mB 219) 125 = .ok (.iload_n 2, 1) := by decide +kernel
theorem dd_219_126 : decode (mB 219) 126 = .ok (.iload_n 3, 1) := by decide +kernel
theorem dd_219_127 : decode (mB 219) 127 = .ok (.invokestatic 495, 3) := by decide +kernel
theorem dd_219_130 : decode (mB 219) 130 = .ok (.iload 4, 2) := by decide +kernel
theorem dd_219_132 : decode (mB 219) 132 = .ok (.aload_n 0, 1) := by decide +kernel
theorem dd_219_133 : decode (mB 219) 133 = .ok (.getfield 156, 3) := by decide +kernel
theorem dd_219_136 : decode (mB 219) 136 = .ok (.iload_n 2, 1) := by decide +kernel
theorem dd_219_137 : decode (mB 219) 137 = .ok (.iload_n 3, 1) := by decide +kernel
theorem dd_219_138 : decode (mB 219) 138 = .ok (.invokestatic 495, 3) := by decide +kernel
theorem dd_219_141 : decode (mB 219) 141 = .ok (.iaload, 1) := by decide +kernel
theorem dd_219_142 : decode (mB 219) 142 = .ok (.if_icmp .ge 8, 3) := by decide +kernel
theorem dd_219_145 : decode (mB 219) 145 = .ok (.iload 4, 2) := by decide +kernel
theorem dd_219_147 : decode (mB 219) 147 = .ok (.goto 13, 3) := by decide +kernel
theorem dd_219_150 : decode (mB 219) 150 = .ok (.aload_n 0, 1) := by decide +kernel
theorem dd_219_151 : decode (mB 219) 151 = .ok (.getfield 156, 3) := by decide +kernel
theorem dd_219_154 : decode (mB 219) 154 = .ok (.iload_n 2, 1) := by decide +kernel
theorem dd_219_155 : decode (mB 219) 155 = .ok (.iload_n 3, 1) := by decide +kernel
theorem dd_219_156 : decode (mB 219) 156 = .ok (.invokestatic 495, 3) := by decide +kernel
theorem dd_219_159 : decode (mB 219) 159 = .ok (.iaload, 1) := by decide +kernel
theorem dd_219_160 : decode (mB 219) 160 = .ok (.iastore, 1) := by decide +kernel
theorem dd_219_161 : decode (mB 219) 161 = .ok (.iinc 3 1, 3) := by decide +kernel
theorem dd_219_164 : decode (mB 219) 164 = .ok (.goto (-120), 3) := by decide +kernel
theorem dd_219_167 : decode (mB 219) 167 = .ok (.iinc 2 1, 3) := by decide +kernel
theorem dd_219_170 : decode (mB 219) 170 = .ok (.goto (-134), 3) := by decide +kernel
theorem dd_219_173 : decode (mB 219) 173 = .ok (.iinc 1 1, 3) := by decide +kernel
theorem dd_219_176 : decode (mB 219) 176 = .ok (.goto (-148), 3) := by decide +kernel
theorem dd_219_179 : decode (mB 219) 179 = .ok (.aload_n 0, 1) := by decide +kernel
theorem dd_219_180 : decode (mB 219) 180 = .ok (.iconst 0, 1) := by decide +kernel
theorem dd_219_181 : decode (mB 219) 181 = .ok (.putfield 499, 3) := by decide +kernel
theorem dd_219_184 : decode (mB 219) 184 = .ok (.iconst 0, 1) := by decide +kernel
theorem dd_219_185 : decode (mB 219) 185 = .ok (.istore_n 1, 1) := by decide +kernel
theorem dd_219_186 : decode (mB 219) 186 = .ok (.iload_n 1, 1) := by decide +kernel
theorem dd_219_187 : decode (mB 219) 187 = .ok (.bipush 8, 2) := by decide +kernel
theorem dd_219_189 : decode (mB 219) 189 = .ok (.if_icmp .ge 38, 3) := by decide +kernel
theorem dd_219_192 : decode (mB 219) 192 = .ok (.aload_n 0, 1) := by decide +kernel
theorem dd_219_193 : decode (mB 219) 193 = .ok (.aload_n 0, 1) := by decide +kernel
theorem dd_219_194 : decode (mB 219) 194 = .ok (.getfield 499, 3) := by decide +kernel
theorem dd_219_197 : decode (mB 219) 197 = .ok (.ifCond .ne 16, 3) := by decide +kernel
theorem dd_219_200 : decode (mB 219) 200 = .ok (.aload_n 0, 1) := by decide +kernel
theorem dd_219_201 : decode (mB 219) 201 = .ok (.getfield 156, 3) := by decide +kernel
theorem dd_219_204 : decode (mB 219) 204 = .ok (.iload_n 1, 1) := by decide +kernel
theorem dd_219_205 : decode (mB 219) 205 = .ok (.iload_n 1, 1) := by decide +kernel
theorem dd_219_206 : decode (mB 219) 206 = .ok (.invokestatic 495, 3) := by decide +kernel
theorem dd_219_209 : decode (mB 219) 209 = .ok (.iaload, 1) := by decide +kernel
theorem dd_219_210 : decode (mB 219) 210 = .ok (.ifCond .gt 7, 3) := by decide +kernel
theorem dd_219_213 : decode (mB 219) 213 = .ok (.iconst 1, 1) := by decide +kernel
theorem dd_219_214 : decode (mB 219) 214 = .ok (.goto 4, 3) := by decide +kernel
theorem dd_219_217 : decode (mB 219) 217 = .ok (.iconst 0, 1) := by decide +kernel
theorem dd_219_218 : decode (mB 219) 218 = .ok (.putfield 499, 3) := by decide +kernel
theorem dd_219_221 : decode (mB 219) 221 = .ok (.iinc 1 1, 3) := by decide +kernel
theorem dd_219_224 : decode (mB 219) 224 = .ok (.goto (-38), 3) := by decide +kernel
theorem dd_219_227 : decode (mB 219) 227 = .ok (.return_, 1) := by decide +kernel
theorem dd_220_0 : decode (mB 220) 0 = .ok (.iload_n 1, 1) := by decide +kernel
theorem dd_220_1 : decode (mB 220) 1 = .ok (.i2l, 1) := by decide +kernel
theorem dd_220_2 : decode (mB 220) 2 = .ok (.lconst 0, 1) := by decide +kernel
theorem dd_220_3 : decode (mB 220) 3 = .ok (.ldc2_w 505, 3) := by decide +kernel
theorem dd_220_6 : decode (mB 220) 6 = .ok (.invokestatic 183, 3) := by decide +kernel
theorem dd_220_9 : decode (mB 220) 9 = .ok (.ifCond .eq 15, 3) := by decide +kernel
theorem dd_220_12 : decode (mB 220) 12 = .ok (.iload_n 2, 1) := by decide +kernel
theorem dd_220_13 : decode (mB 220) 13 = .ok (.i2l, 1) := by decide +kernel
theorem dd_220_14 : decode (mB 220) 14 = .ok (.lconst 0, 1) := by decide +kernel
theorem dd_220_15 : decode (mB 220) 15 = .ok (.ldc2_w 219, 3) := by decide +kernel
theorem dd_220_18 : decode (mB 220) 18 = .ok (.invokestatic 183, 3) := by decide +kernel
theorem dd_220_21 : decode (mB 220) 21 = .ok (.ifCond .ne 6, 3) := by decide +kernel
theorem dd_220_24 : decode (mB 220) 24 = .ok (.ldc 200, 2) := by decide +kernel
theorem dd_220_26 : decode (mB 220) 26 = .ok (.ireturn, 1) := by decide +kernel
theorem dd_220_27 : decode (mB 220) 27 = .ok (.aload_n 0, 1) := by decide +kernel
theorem dd_220_28 : decode (mB 220) 28 = .ok (.getfield 159, 3) := by decide +kernel
theorem dd_220_31 : decode (mB 220) 31 = .ok (.iload_n 1, 1) := by decide +kernel
theorem dd_220_32 : decode (mB 220) 32 = .ok (.iaload, 1) := by decide +kernel
theorem dd_220_33 : decode (mB 220) 33 = .ok (.istore_n 3, 1) := by decide +kernel
theorem dd_220_34 : decode (mB 220) 34 = .ok (.aload_n 0, 1) := by decide +kernel
theorem dd_220_35 : decode (mB 220) 35 = .ok (.getfield 159, 3) := by decide +kernel
theorem dd_220_38 : decode (mB 220) 38 = .ok (.iload_n 1, 1) := by decide +kernel
theorem dd_220_39 : decode (mB 220) 39 = .ok (.iload_n 2, 1) := by decide +kernel
theorem dd_220_40 : decode (mB 220) 40 = .ok (.iastore, 1) := by decide +kernel
theorem dd_220_41 : decode (mB 220) 41 = .ok (.iload_n 3, 1) := by decide +kernel
theorem dd_220_42 : decode (mB 220) 42 = .ok (.ireturn, 1) := by decide +kernel
theorem dd_221_0 : decode (mB 221) 0 = .ok (.iload_n 1, 1) := by decide +kernel
theorem dd_221_1 : decode (mB 221) 1 = .ok (.i2l, 1) := by decide +kernel
theorem dd_221_2 : decode (mB 221) 2 = .ok (.ldc2_w 511, 3) := by decide +kernel
theorem dd_221_5 : decode (mB 221) 5 = .ok (.ldc2_w 269, 3) := by decide +kernel
theorem dd_221_8 : decode (mB 221) 8 = .ok (.invokestatic 183, 3) := by decide +kernel
theorem dd_221_11 : decode (mB 221) 11 = .ok (.ifCond .ne 6, 3) := by decide +kernel
theorem dd_221_14 : decode (mB 221) 14 = .ok (.ldc 200, 2) := by decide +kernel
theorem dd_221_16 : decode (mB 221) 16 = .ok (.ireturn, 1) := by decide +kernel
theorem dd_221_17 : decode (mB 221) 17 = .ok (.aload_n 0, 1) := by decide +kernel
theorem dd_221_18 : decode (mB 221) 18 = .ok (.invokevirtual 513, 3) := by decide +kernel
theorem dd_221_21 : decode (mB 221) 21 = .ok (.iload_n 1, 1) := by decide +kernel
theorem dd_221_22 : decode (mB 221) 22 = .ok (.ifCond .ge 12, 3) := by decide +kernel
theorem dd_221_25 : decode (mB 221) 25 = .ok (.aload_n 0, 1) := by decide +kernel
theorem dd_221_26 : decode (mB 221) 26 = .ok (.iconst 0, 1) := by decide +kernel
theorem dd_221_27 : decode (mB 221) 27 = .ok (.iconst 0, 1) := by decide +kernel
theorem dd_221_28 : decode (mB 221) 28 = .ok (.iconst 0, 1) := by decide +kernel
theorem dd_221_29 : decode (mB 221) 29 = .ok (.iconst 0, 1) := by decide +kernel
theorem dd_221_30 : decode (mB 221) 30 = .ok (.invokevirtual 507, 3) := by decide +kernel
theorem dd_221_33 : decode (mB 221) 33 = .ok (.ireturn, 1) := by decide +kernel
theorem dd_221_34 : decode (mB 221) 34 = .ok (.iconst 0, 1) := by decide +kernel
theorem dd_221_35 : decode (mB 221) 35 = .ok (.istore_n 2, 1) := by decide +kernel
theorem dd_221_36 : decode (mB 221) 36 = .ok (.iconst 0, 1) := by decide +kernel
theorem dd_221_37 : decode (mB 221) 37 = .ok (.istore_n 3, 1) := by decide +kernel
theorem dd_221_38 : decode (mB 221) 38 = .ok (.iconst 0, 1) := by decide +kernel
theorem dd_221_39 : decode (mB 221) 39 = .ok (.istore 4, 2) := by decide +kernel
theorem dd_221_41 : decode (mB 221) 41 = .ok (.iconst 0, 1) := by decide +kernel
theorem dd_221_42 : decode (mB 221) 42 = .ok (.istore 5, 2) := by decide +kernel
theorem dd_221_44 : decode (mB 221) 44 = .ok (.iconst 0, 1) := by decide +kernel
theorem dd_221_45 : decode (mB 221) 45 = .ok (.istore 6, 2) := by decide +kernel
theorem dd_221_47 : decode (mB 221) 47 = .ok (.iload 6, 2) := by decide +kernel
theorem dd_221_49 : decode (mB 221) 49 = .ok (.iload_n 1, 1) := by decide +kernel
theorem dd_221_50 : decode (mB 221) 50 = .ok (.if_icmp .gt 79, 3) := by decide +kernel
theorem dd_221_53 : decode (mB 221) 53 = .ok (.aload_n 0, 1) := by decide +kernel
theorem dd_221_54 : decode (mB 221) 54 = .ok (.iload 6, 2) := by decide +kernel
theorem dd_221_56 : decode (mB 221) 56 = .ok (.iload_n 2, 1) := by decide +kernel
theorem dd_221_57 : decode (mB 221) 57 = .ok (.iload_n 3, 1) := by decide +kernel
theorem dd_221_58 : decode (mB 221) 58 = .ok (.iload 4, 2) := by decide +kernel
theorem dd_221_60 : decode (mB 221) 60 = .ok (.invokevirtual 507, 3) := by decide +kernel
theorem dd_221_63 : decode (mB 221) 63 = .ok (.istore 7, 2) := by decide +kernel
theorem dd_221_65 : decode (mB 221) 65 = .ok (.iconst 0, 1) := by decide +kernel
theorem dd_221_66 : decode (mB 221) 66 = .ok (.istore 5, 2) := by decide +kernel
theorem dd_221_68 : decode (mB 221) 68 = .ok (.iload_n 2, 1) := by decide +kernel
theorem dd_221_69 : decode (mB 221) 69 = .ok (.iload_n 3, 1) := by decide +kernel
theorem dd_221_70 : decode (mB 221) 70 = .ok (.iadd, 1) := by decide +kernel
theorem dd_221_71 : decode (mB 221) 71 = .ok (.iload 4, 2) := by decide +kernel
theorem dd_221_73 : decode (mB 221) 73 = .ok (.iadd, 1) := by decide +kernel
theorem dd_221_74 : decode (mB 221) 74 = .ok (.iload 5, 2) := by decide +kernel
theorem dd_221_76 : decode (mB 221) 76 = .ok (.iadd, 1) := by decide +kernel
theorem dd_221_77 : decode (mB 221) 77 = .ok (.aload_n 0, 1) := by decide +kernel
theorem dd_221_78 : decode (mB 221) 78 = .ok (.getfield 159, 3) := by decide +kernel
theorem dd_221_81 : decode (mB 221) 81 = .ok (.iload 6, 2) := by decide +kernel
theorem dd_221_83 : decode (mB 221) 83 = .ok (.iaload, 1) := by decide +kernel
theorem dd_221_84 : decode (mB 221) 84 = .ok (.if_icmp .lt 24, 3) := by decide +kernel
theorem dd_221_87 : decode (mB 221) 87 = .ok (.iload 5, 2) := by decide +kernel
theorem dd_221_89 : decode (mB 221) 89 = .ok (.aload_n 0, 1) := by decide +kernel
theorem dd_221_90 : decode (mB 221) 90 = .ok (.iload 6, 2) := by decide +kernel
theorem dd_221_92 : decode (mB 221) 92 = .ok (.iconst 1, 1) := by decide +kernel
theorem dd_221_93 : decode (mB 221) 93 = .ok (.iadd, 1) := by decide +kernel
theorem dd_221_94 : decode (mB 221) 94 = .ok (.iload_n 3, 1) := by decide +kernel
theorem dd_221_95 : decode (mB 221) 95 = .ok (.iload 4, 2) := by decide +kernel
theorem dd_221_97 : decode (mB 221) 97 = .ok (.iload 5, 2) := by decide +kernel
theorem dd_221_99 : decode (mB 221) 99 = .ok (.invokevirtual 507, 3) := by decide +kernel
theorem dd_221_102 : decode (mB 221) 102 = .ok (.iadd, 1) := by decide +kernel
theorem dd_221_103 : decode (mB 221) 103 = .ok (.iload 7, 2) := by decide +kernel
theorem dd_221_105 : decode (mB 221) 105 = .ok (.if_icmp .eq 9, 3) := by decide +kernel
theorem dd_221_108 : decode (mB 221) 108 = .ok (.iinc 5 1, 3) := by decide +kernel
theorem dd_221_111 : decode (mB 221) 111 = .ok (.goto (-43), 3) := by decide +kernel
theorem dd_221_114 : decode (mB 221) 114 = .ok (.iload_n 3, 1) := by decide +kernel
theorem dd_221_115 : decode (mB 221) 115 = .ok (.istore_n 2, 1) := by decide +kernel
theorem dd_221_116 : decode (mB 221) 116 = .ok (.iload 4, 2) := by decide +kernel
theorem dd_221_118 : decode (mB 221) 118 = .ok (.istore_n 3, 1) := by decide +kernel
theorem dd_221_119 : decode (mB 221) 119 = .ok (.iload 5, 2) := by decide +kernel
theorem dd_221_121 : decode (mB 221) 121 = .ok (.istore 4, 2) := by decide +kernel
theorem dd_221_123 : decode (mB 221) 123 = .ok (.iinc 6 1, 3) := by decide +kernel
theorem dd_221_126 : decode (mB 221) 126 = .ok (.goto (-79), 3) := by decide +kernel
theorem dd_221_129 : decode (mB 221) 129 = .ok (.iload 5, 2) := by decide +kernel
theorem dd_221_131 : decode (mB 221) 131 = .ok (.ireturn, 1) := by decide +kernel
theorem dd_222_0 : decode (mB 222) 0 = .ok (.bipush 8, 2) := by decide +kernel
theorem dd_222_2 : decode (mB 222) 2 = .ok (.istore_n 1, 1) := by decide +kernel
theorem dd_222_3 : decode (mB 222) 3 = .ok (.iload_n 1, 1) := by decide +kernel
theorem dd_222_4 : decode (mB 222) 4 = .ok (.ifCond .lt 136, 3) := by decide +kernel
theorem dd_222_7 : decode (mB 222) 7 = .ok (.iconst 0, 1) := by decide +kernel
theorem dd_222_8 : decode (mB 222) 8 = .ok (.istore_n 2, 1) := by decide +kernel
theorem dd_222_9 : decode (mB 222) 9 = .ok (.iload_n 2, 1) := by decide +kernel
theorem dd_222_10 : decode (mB 222) 10 = .ok (.sipush 1000, 3) := by decide +kernel
theorem dd_222_13 : decode (mB 222) 13 = .ok (.if_icmp .ge 121, 3) := by decide +kernel
theorem dd_222_16 : decode (mB 222) 16 = .ok (.iload_n 2, 1) := by decide +kernel
theorem dd_222_17 : decode (mB 222) 17 = .ok (.bipush 100, 2) := by decide +kernel
theorem dd_222_19 : decode (mB 222) 19 = .ok (.idiv, 1) := by decide +kernel
theorem dd_222_20 : decode (mB 222) 20 = .ok (.istore_n 3, 1) := by decide +kernel
theorem dd_222_21 : decode (mB 222) 21 = .ok (.iload_n 2, 1) := by decide +kernel
theorem dd_222_22 : decode (mB 222) 22 = .ok (.bipush 10, 2) := by decide +kernel
theorem dd_222_24 : decode (mB 222) 24 = .ok (.idiv, 1) := by decide +kernel
theorem dd_222_25 : decode (mB 222) 25 = .ok (.bipush 10, 2) := by decide +kernel
theorem dd_222_27 : decode (mB 222) 27 = .ok (.irem, 1) := by decide +kernel
theorem dd_222_28 : decode (mB 222) 28 = .ok (.istore 4, 2) := by decide +kernel
theorem dd_222_30 : decode (mB 222) 30 = .ok (.iload_n 2, 1) := by decide +kernel
theorem dd_222_31 : decode (mB 222) 31 = .ok (.bipush 10, 2) := by decide +kernel
theorem dd_222_33 : decode (mB 222) 33 = .ok (.irem, 1) := by decide +kernel
theorem dd_222_34 : decode (mB 222) 34 = .ok (.istore 5, 2) := by decide +kernel
theorem dd_222_36 : decode (mB 222) 36 = .ok (.ldc 180, 2) := by decide +kernel
theorem dd_222_38 : decode (mB 222) 38 = .ok (.istore 6, 2) := by decide +kernel
theorem dd_222_40 : decode (mB 222) 40 = .ok (.iconst 0, 1) := by decide +kernel
theorem dd_222_41 : decode (mB 222) 41 = .ok (.istore 7, 2) := by decide +kernel
theorem dd_222_43 : decode (mB 222) 43 = .ok (.iload 7, 2) := by decide +kernel
theorem dd_222_45 : decode (mB 222) 45 = .ok (.bipush 10, 2) := by decide +kernel
theorem dd_222_47 : decode (mB 222) 47 = .ok (.if_icmp .ge 67, 3) := by decide +kernel
theorem dd_222_50 : decode (mB 222) 50 = .ok (.iload_n 3, 1) := by decide +kernel
theorem dd_222_51 : decode (mB 222) 51 = .ok (.iload 4, 2) := by decide +kernel
theorem dd_222_53 : decode (mB 222) 53 = .ok (.iadd, 1) := by decide +kernel
theorem dd_222_54 : decode (mB 222) 54 = .ok (.iload 5, 2) := by decide +kernel
theorem dd_222_56 : decode (mB 222) 56 = .ok (.iadd, 1) := by decide +kernel
theorem dd_222_57 : decode (mB 222) 57 = .ok (.iload 7, 2) := by decide +kernel
theorem dd_222_59 : decode (mB 222) 59 = .ok (.iadd, 1) := by decide +kernel
theorem dd_222_60 : decode (mB 222) 60 = .ok (.aload_n 0, 1) := by decide +kernel
theorem dd_222_61 : decode (mB 222) 61 = .ok (.getfield 159, 3) := by decide +kernel
theorem dd_222_64 : decode (mB 222) 64 = .ok (.iload_n 1, 1) := by decide +kernel
theorem dd_222_65 : decode (mB 222) 65 = .ok (.iaload, 1) := by decide +kernel
theorem dd_222_66 : decode (mB 222) 66 = .ok (.if_icmp .ge 8, 3) := by decide +kernel
theorem dd_222_69 : decode (mB 222) 69 = .ok (.ldc 180, 2) := by decide +kernel
theorem dd_222_71 : decode (mB 222) 71 = .ok (.goto 19, 3) := by decide +kernel
theorem dd_222_74 : decode (mB 222) 74 = .ok (.iload 7, 2) := by decide +kernel
theorem dd_222_76 : decode (mB 222) 76 = .ok (.aload_n 0, 1) := by decide +kernel
theorem dd_222_77 : decode (mB 222) 77 = .ok (.iload_n 1, 1) := by decide +kernel
theorem dd_222_78 : decode (mB 222) 78 = .ok (.iconst 1, 1) := by decide +kernel
theorem dd_222_79 : decode (mB 222) 79 = .ok (.iadd, 1) := by decide +kernel
theorem dd_222_80 : decode (mB 222) 80 = .ok (.iload 4, 2) := by decide +kernel
theorem dd_222_82 : decode (mB 222) 82 = .ok (.iload 5, 2) := by decide +kernel
theorem dd_222_84 : decode (mB 222) 84 = .ok (.iload 7, 2) := by decide +kernel
theorem dd_222_86 : decode (mB 222) 86 = .ok (.invokevirtual 507, 3) := by decide +kernel
theorem dd_222_89 : decode (mB 222) 89 = .ok (.iadd, 1) := by decide +kernel
theorem dd_222_90 : decode (mB 222) 90 = .ok (.istore 8, 2) := by decide +kernel
theorem dd_222_92 : decode (mB 222) 92 = .ok (.iload 8, 2) := by decide +kernel
theorem dd_222_94 : decode (mB 222) 94 = .ok (.iload 6, 2) := by decide +kernel
theorem dd_222_96 : decode (mB 222) 96 = .ok (.if_icmp .ge 8, 3) := by decide +kernel
theorem dd_222_99 : decode (mB 222) 99 = .ok (.iload 8, 2) := by decide +kernel
theorem dd_222_101 : decode (mB 222) 101 = .ok (.goto 5, 3) := by decide +kernel
theorem dd_222_104 : decode (mB 222) 104 = .ok (.iload 6, 2) := by decide +kernel
theorem dd_222_106 : decode (mB 222) 106 = .ok (.istore 6, 2) := by decide +kernel
theorem dd_222_108 : decode (mB 222) 108 = .ok (.iinc 7 1, 3) := by decide +kernel
theorem dd_222_111 : decode (mB 222) 111 = .ok (.goto (-68), 3) := by decide +kernel
theorem dd_222_114 : decode (mB 222) 114 = .ok (.aload_n 0, 1) := by decide +kernel
theorem dd_222_115 : decode (mB 222) 115 = .ok (.getfield 162, 3) := by decide +kernel
theorem dd_222_118 : decode (mB 222) 118 = .ok (.sipush 1000, 3) := by decide +kernel
theorem dd_222_121 : decode (mB 222) 121 = .ok (.iload_n 1, 1) := by decide +kernel
theorem dd_222_122 : decode (mB 222) 122 = .ok (.imul, 1) := by decide +kernel
theorem dd_222_123 : decode (mB 222) 123 = .ok (.iload_n 2, 1) := by decide +kernel
theorem dd_222_124 : decode (mB 222) 124 = .ok (.iadd, 1) := by decide +kernel
theorem dd_222_125 : decode (mB 222) 125 = .ok (.iload 6, 2) := by decide +kernel
theorem dd_222_127 : decode (mB 222) 127 = .ok (.iastore, 1) := by decide +kernel
theorem dd_222_128 : decode (mB 222) 128 = .ok (.iinc 2 1, 3) := by decide +kernel
theorem dd_222_131 : decode (mB 222) 131 = .ok (.goto (-122), 3) := by decide +kernel
theorem dd_222_134 : decode (mB 222) 134 = .ok (.iinc 1 (-1), 3) := by decide +kernel
theorem dd_222_137 : decode (mB 222) 137 = .ok (.goto (-134), 3) := by decide +kernel
theorem dd_222_140 : decode (mB 222) 140 = .ok (.return_, 1) := by decide +kernel
theorem dd_223_0 : decode (mB 223) 0 = .ok (.iload_n 1, 1) := by decide +kernel
theorem dd_223_1 : decode (mB 223) 1 = .ok (.bipush 8, 2) := by decide +kernel
theorem dd_223_3 : decode (mB 223) 3 = .ok (.if_icmp .le 59, 3) := by decide +kernel
theorem dd_223_6 : decode (mB 223) 6 = .ok (.iload_n 2, 1) := by decide +kernel
theorem dd_223_7 : decode (mB 223) 7 = .ok (.iload_n 3, 1) := by decide +kernel
theorem dd_223_8 : decode (mB 223) 8 = .ok (.iadd, 1) := by decide +kernel
theorem dd_223_9 : decode (mB 223) 9 = .ok (.iload 4, 2) := by decide +kernel
theorem dd_223_11 : decode (mB 223) 11 = .ok (.iadd, 1) := by decide +kernel
theorem dd_223_12 : decode (mB 223) 12 = .ok (.aload_n 0, 1) := by decide +kernel
theorem dd_223_13 : decode (mB 223) 13 = .ok (.getfield 159, 3) := by decide +kernel
theorem dd_223_16 : decode (mB 223) 16 = .ok (.bipush 9, 2) := by decide +kernel
theorem dd_223_18 : decode (mB 223) 18 = .ok (.iaload, 1) := by decide +kernel
theorem dd_223_19 : decode (mB 223) 19 = .ok (.if_icmp .lt 29, 3) := by decide +kernel
theorem dd_223_22 : decode (mB 223) 22 = .ok (.iload_n 3, 1) := by decide +kernel
theorem dd_223_23 : decode (mB 223) 23 = .ok (.iload 4, 2) := by decide +kernel
theorem dd_223_25 : decode (mB 223) 25 = .ok (.iadd, 1) := by decide +kernel
theorem dd_223_26 : decode (mB 223) 26 = .ok (.aload_n 0, 1) := by decide +kernel
theorem dd_223_27 : decode (mB 223) 27 = .ok (.getfield 159, 3) := by decide +kernel
theorem dd_223_30 : decode (mB 223) 30 = .ok (.bipush 10, 2) := by decide +kernel
theorem dd_223_32 : decode (mB 223) 32 = .ok (.iaload, 1) := by decide +kernel
theorem dd_223_33 : decode (mB 223) 33 = .ok (.if_icmp .lt 15, 3) := by decide +kernel
theorem dd_223_36 : decode (mB 223) 36 = .ok (.iload 4, 2) := by decide +kernel
theorem dd_223_38 : decode (mB 223) 38 = .ok (.aload_n 0, 1) := by decide +kernel
theorem dd_223_39 : decode (mB 223) 39 = .ok (.getfield 159, 3) := by decide +kernel
theorem dd_223_42 : decode (mB 223) 42 = .ok (.bipush 11, 2) := by decide +kernel
theorem dd_223_44 : decode (mB 223) 44 = .ok (.iaload, 1) := by decide +kernel
theorem dd_223_45 : decode (mB 223) 45 = .ok (.if_icmp .ge 7, 3) := by decide +kernel
theorem dd_223_48 : decode (mB 223) 48 = .ok (.iconst 1, 1) := by decide +kernel
theorem dd_223_49 : decode (mB 223) 49 = .ok (.goto 4, 3) := by decide +kernel
theorem dd_223_52 : decode (mB 223) 52 = .ok (.iconst 0, 1) := by decide +kernel
theorem dd_223_53 : decode (mB 223) 53 = .ok (.invokestatic 314, 3) := by decide +kernel
theorem dd_223_56 : decode (mB 223) 56 = .ok (.ldc 180, 2) := by decide +kernel
theorem dd_223_58 : decode (mB 223) 58 = .ok (.imul, 1) := by decide +kernel
theorem dd_223_59 : decode (mB 223) 59 = .ok (.goto 26, 3) := by decide +kernel
theorem dd_223_62 : decode (mB 223) 62 = .ok (.aload_n 0, 1) := by decide +kernel
theorem dd_223_63 : decode (mB 223) 63 = .ok (.getfield 162, 3) := by decide +kernel
theorem dd_223_66 : decode (mB 223) 66 = .ok (.sipush 1000, 3) := by decide +kernel
theorem dd_223_69 : decode (mB 223) 69 = .ok (.iload_n 1, 1) := by decide +kernel
theorem dd_223_70 : decode (mB 223) 70 = .ok (.imul, 1) := by decide +kernel
theorem dd_223_71 : decode (mB 223) 71 = .ok (.bipush 100, 2) := by decide +kernel
theorem dd_223_73 : decode (mB 223) 73 = .ok (.iload_n 2, 1) := by decide +kernel
theorem dd_223_74 : decode (mB 223) 74 = .ok (.imul, 1) := by decide +kernel
theorem dd_223_75 : decode (mB 223) 75 = .ok (.iadd, 1) := by decide +kernel
theorem dd_223_76 : decode (mB 223) 76 = .ok (.bipush 10, 2) := by decide +kernel
theorem dd_223_78 : decode (mB 223) 78 = .ok (.iload_n 3, 1) := by decide +kernel
theorem dd_223_79 : decode (mB 223) 79 = .ok (.imul, 1) := by decide +kernel
theorem dd_223_80 : decode (mB 223) 80 = .ok (.iadd, 1) := by decide +kernel
theorem dd_223_81 : decode (mB 223) 81 = .ok (.iload 4, 2) := by decide +kernel
theorem dd_223_83 : decode (mB 223) 83 = .ok (.iadd, 1) := by decide +kernel
theorem dd_223_84 : decode (mB 223) 84 = .ok (.iaload, 1) := by decide +kernel
theorem dd_223_85 : decode (mB 223) 85 = .ok (.ireturn, 1) := by decide +kernel
theorem dd_224_0 : decode (mB 224) 0 = .ok (.iload_n 1, 1) := by decide +kernel
theorem dd_224_1 : decode (mB 224) 1 = .ok (.invokestatic 192, 3) := by decide +kernel
theorem dd_224_4 : decode (mB 224) 4 = .ok (.ifCond .eq 10, 3) := by decide +kernel
theorem dd_224_7 : decode (mB 224) 7 = .ok (.iload_n 2, 1) := by decide +kernel
theorem dd_224_8 : decode (mB 224) 8 = .ok (.invokestatic 192, 3) := by decide +kernel
theorem dd_224_11 : decode (mB 224) 11 = .ok (.ifCond .ne 6, 3) := by decide +kernel
theorem dd_224_14 : decode (mB 224) 14 = .ok (.ldc 196, 2) := by decide +kernel
theorem dd_224_16 : decode (mB 224) 16 = .ok (.ireturn, 1) := by decide +kernel
theorem dd_224_17 : decode (mB 224) 17 = .ok (.iload_n 1, 1) := by decide +kernel
theorem dd_224_18 : decode (mB 224) 18 = .ok (.iload_n 2, 1) := by decide +kernel
theorem dd_224_19 : decode (mB 224) 19 = .ok (.if_icmp .eq 23, 3) := by decide +kernel
theorem dd_224_22 : decode (mB 224) 22 = .ok (.iload_n 3, 1) := by decide +kernel
theorem dd_224_23 : decode (mB 224) 23 = .ok (.invokestatic 197, 3) := by decide +kernel
theorem dd_224_26 : decode (mB 224) 26 = .ok (.ifCond .eq 16, 3) := by decide +kernel
theorem dd_224_29 : decode (mB 224) 29 = .ok (.iload 4, 2) := by decide +kernel
theorem dd_224_31 : decode (mB 224) 31 = .ok (.i2l, 1) := by decide +kernel
theorem dd_224_32 : decode (mB 224) 32 = .ok (.lconst 0, 1) := by decide +kernel
theorem dd_224_33 : decode (mB 224) 33 = .ok (.ldc2_w 493, 3) := by decide +kernel
theorem dd_224_36 : decode (mB 224) 36 = .ok (.invokestatic 183, 3) := by decide +kernel
theorem dd_224_39 : decode (mB 224) 39 = .ok (.ifCond .ne 6, 3) := by decide +kernel
theorem dd_224_42 : decode (mB 224) 42 = .ok (.ldc 200, 2) := by decide +kernel
theorem dd_224_44 : decode (mB 224) 44 = .ok (.ireturn, 1) := by decide +kernel
theorem dd_224_45 : decode (mB 224) 45 = .ok (.aload_n 0, 1) := by decide +kernel
theorem dd_224_46 : decode (mB 224) 46 = .ok (.getfield 484, 3) := by decide +kernel
theorem dd_224_49 : decode (mB 224) 49 = .ok (.iconst 4, 1) := by decide +kernel
theorem dd_224_50 : decode (mB 224) 50 = .ok (.if_icmp .ne 6, 3) := by decide +kernel
theorem dd_224_53 : decode (mB 224) 53 = .ok (.ldc 201, 2) := by decide +kernel
theorem dd_224_55 : decode (mB 224) 55 = .ok (.ireturn, 1) := by decide +kernel
theorem dd_224_56 : decode (mB 224) 56 = .ok (.aload_n 0, 1) := by decide +kernel
theorem dd_224_57 : decode (mB 224) 57 = .ok (.getfield 165, 3) := by decide +kernel
theorem dd_224_60 : decode (mB 224) 60 = .ok (.aload_n 0, 1) := by decide +kernel
theorem dd_224_61 : decode (mB 224) 61 = .ok (.getfield 484, 3) := by decide +kernel
theorem dd_224_64 : decode (mB 224) 64 = .ok (.iload_n 1, 1) := by decide +kernel
theorem dd_224_65 : decode (mB 224) 65 = .ok (.iastore, 1) := by decide +kernel
theorem dd_224_66 : decode (mB 224) 66 = .ok (.aload_n 0, 1) := by decide +kernel
theorem dd_224_67 : decode (mB 224) 67 = .ok (.getfield 168, 3) := by decide +kernel
theorem dd_224_70 : decode (mB 224) 70 = .ok (.aload_n 0, 1) := by decide +kernel
theorem dd_224_71 : decode (mB 224) 71 = .ok (.getfield 484, 3) := by decide +kernel
theorem dd_224_74 : decode (mB 224) 74 = .ok (.iload_n 2, 1) := by decide +kernel
theorem dd_224_75 : decode (mB 224) 75 = .ok (.iastore, 1) := by decide +kernel
theorem dd_224_76 : decode (mB 224) 76 = .ok (.aload_n 0, 1) := by decide +kernel
theorem dd_224_77 : decode (mB 224) 77 = .ok (.getfield 171, 3) := by decide +kernel
theorem dd_224_80 : decode (mB 224) 80 = .ok (.aload_n 0, 1) := by decide +kernel
theorem dd_224_81 : decode (mB 224) 81 = .ok (.getfield 484, 3) := by decide +kernel
theorem dd_224_84 : decode (mB 224) 84 = .ok (.iload_n 3, 1) := by decide +kernel
theorem dd_224_85 : decode (mB 224) 85 = .ok (.iastore, 1) := by decide +kernel
theorem dd_224_86 : decode (mB 224) 86 = .ok (.aload_n 0, 1) := by decide +kernel
theorem dd_224_87 : decode (mB 224) 87 = .ok (.getfield 174, 3) := by decide +kernel
theorem dd_224_90 : decode (mB 224) 90 = .ok (.aload_n 0, 1) := by decide +kernel
theorem dd_224_91 : decode (mB 224) 91 = .ok (.getfield 484, 3) := by decide +kernel
theorem dd_224_94 : decode (mB 224) 94 = .ok (.iload 4, 2) := by decide +kernel
theorem dd_224_96 : decode (mB 224) 96 = .ok (.iastore, 1) := by decide +kernel
theorem dd_224_97 : decode (mB 224) 97 = .ok (.aload_n 0, 1) := by decide +kernel
theorem dd_224_98 : decode (mB 224) 98 = .ok (.dup, 1) := by decide +kernel
theorem dd_224_99 : decode (mB 224) 99 = .ok (.getfield 484, 3) := by decide +kernel
theorem dd_224_102 : decode (mB 224) 102 = .ok (.iconst 1, 1) := by decide +kernel
theorem dd_224_103 : decode (mB 224) 103 = .ok (.iadd, 1) := by decide +kernel
theorem dd_224_104 : decode (mB 224) 104 = .ok (.putfield 484, 3) := by decide +kernel
theorem dd_224_107 : decode (mB 224) 107 = .ok (.aload_n 0, 1) := by decide +kernel
theorem dd_224_108 : decode (mB 224) 108 = .ok (.getfield 484, 3) := by decide +kernel
theorem dd_224_111 : decode (mB 224) 111 = .ok (.iconst 1, 1) := by decide +kernel
theorem dd_224_112 : decode (mB 224) 112 = .ok (.isub, 1) := by decide +kernel
theorem dd_224_113 : decode (mB 224) 113 = .ok (.ireturn, 1) := by decide +kernel
theorem dd_225_0 : decode (mB 225) 0 = .ok (.iload_n 1, 1) := by decide +kernel
theorem dd_225_1 : decode (mB 225) 1 = .ok (.ifCond .lt 25, 3) := by decide +kernel
theorem dd_225_4 : decode (mB 225) 4 = .ok (.iload_n 1, 1) := by decide +kernel
theorem dd_225_5 : decode (mB 225) 5 = .ok (.aload_n 0, 1) := by decide +kernel
theorem dd_225_6 : decode (mB 225) 6 = .ok (.getfield 331, 3) := by decide +kernel
theorem dd_225_9 : decode (mB 225) 9 = .ok (.ishr, 1) := by decide +kernel
theorem dd_225_10 : decode (mB 225) 10 = .ok (.ifCond .ne 16, 3) := by decide +kernel
theorem dd_225_13 : decode (mB 225) 13 = .ok (.iload_n 2, 1) := by decide +kernel
theorem dd_225_14 : decode (mB 225) 14 = .ok (.ifCond .lt 12, 3) := by decide +kernel
theorem dd_225_17 : decode (mB 225) 17 = .ok (.iload_n 2, 1) := by decide +kernel
theorem dd_225_18 : decode (mB 225) 18 = .ok (.aload_n 0, 1) := by decide +kernel
theorem dd_225_19 : decode (mB 225) 19 = .ok (.getfield 484, 3) := by decide +kernel
theorem dd_225_22 : decode (mB 225) 22 = .ok (.ishr, 1) := by decide +kernel
theorem dd_225_23 : decode (mB 225) 23 = .ok (.ifCond .eq 6, 3) := by decide +kernel
theorem dd_225_26 : decode (mB 225) 26 = .ok (.ldc 196, 2) := by decide +kernel
theorem dd_225_28 : decode (mB 225) 28 = .ok (.ireturn, 1) := by decide +kernel
theorem dd_225_29 : decode (mB 225) 29 = .ok (.iload_n 3, 1) := by decide +kernel
theorem dd_225_30 : decode (mB 225) 30 = .ok (.i2l, 1) := by decide +kernel
theorem dd_225_31 : decode (mB 225) 31 = .ok (.lconst 0, 1) := by decide +kernel
theorem dd_225_32 : decode (mB 225) 32 = .ok (.ldc2_w 541, 3) := by decide +kernel
theorem dd_225_35 : decode (mB 225) 35 = .ok (.invokestatic 183, 3) := by decide +kernel
theorem dd_225_38 : decode (mB 225) 38 = .ok (.ifCond .ne 6, 3) := by decide +kernel
theorem dd_225_41 : decode (mB 225) 41 = .ok (.ldc 200, 2) := by decide +kernel
theorem dd_225_43 : decode (mB 225) 43 = .ok (.ireturn, 1) := by decide +kernel
theorem dd_225_44 : decode (mB 225) 44 = .ok (.aload_n 0, 1) := by decide +kernel
theorem dd_225_45 : decode (mB 225) 45 = .ok (.iload_n 1, 1) := by decide +kernel
theorem dd_225_46 : decode (mB 225) 46 = .ok (.iload_n 2, 1) := by decide +kernel
theorem dd_225_47 : decode (mB 225) 47 = .ok (.invokevirtual 543, 3) := by decide +kernel
theorem dd_225_50 : decode (mB 225) 50 = .ok (.iload_n 3, 1) := by decide +kernel
theorem dd_225_51 : decode (mB 225) 51 = .ok (.ifCond .ne 10, 3) := by decide +kernel
theorem dd_225_54 : decode (mB 225) 54 = .ok (.aload_n 0, 1) := by decide +kernel
theorem dd_225_55 : decode (mB 225) 55 = .ok (.getfield 526, 3) := by decide +kernel
theorem dd_225_58 : decode (mB 225) 58 = .ok (.goto 43, 3) := by decide +kernel
theorem dd_225_61 : decode (mB 225) 61 = .ok (.iload_n 3, 1) := by decide +kernel
theorem dd_225_62 : decode (mB 225) 62 = .ok (.iconst 1, 1) := by decide +kernel
theorem dd_225_63 : decode (mB 225) 63 = .ok (.if_icmp .ne 10, 3) := by decide +kernel
theorem dd_225_66 : decode (mB 225) 66 = .ok (.aload_n 0, 1) := by decide +kernel
theorem dd_225_67 : decode (mB 225) 67 = .ok (.getfield 529, 3) := by decide +kernel
theorem dd_225_70 : decode (mB 225) 70 = .ok (.goto 31, 3) := by decide +kernel
theorem dd_225_73 : decode (mB 225) 73 = .ok (.iload_n 3, 1) := by decide +kernel
theorem dd_225_74 : decode (mB 225) 74 = .ok (.iconst 2, 1) := by decide +kernel
theorem dd_225_75 : decode (mB 225) 75 = .ok (.if_icmp .ne 10, 3) := by decide +kernel
theorem dd_225_78 : decode (mB 225) 78 = .ok (.aload_n 0, 1) := by decide +kernel
theorem dd_225_79 : decode (mB 225) 79 = .ok (.getfield 532, 3) := by decide +kernel
theorem dd_225_82 : decode (mB 225) 82 = .ok (.goto 19, 3) := by decide +kernel
theorem dd_225_85 : decode (mB 225) 85 = .ok (.iload_n 3, 1) := by decide +kernel
theorem dd_225_86 : decode (mB 225) 86 = .ok (.iconst 3, 1) := by decide +kernel
theorem dd_225_87 : decode (mB 225) 87 = .ok (.if_icmp .ne 10, 3) := by decide +kernel
theorem dd_225_90 : decode (mB 225) 90 = .ok (.aload_n 0, 1) := by decide +kernel
theorem dd_225_91 : decode (mB 225) 91 = .ok (.getfield 535, 3) := by decide +kernel
theorem dd_225_94 : decode (mB 225) 94 = .ok (.goto 7, 3) := by decide +kernel
theorem dd_225_97 : decode (mB 225) 97 = .ok (.aload_n 0, 1) := by decide +kernel
theorem dd_225_98 : decode (mB 225) 98 = .ok (.getfield 538, 3) := by decide +kernel
theorem dd_225_101 : decode (mB 225) 101 = .ok (.ireturn, 1) := by decide +kernel
theorem dd_226_0 : decode (mB 226) 0 = .ok (.aload_n 0, 1) := by decide +kernel
theorem dd_226_1 : decode (mB 226) 1 = .ok (.iconst 0, 1) := by decide +kernel
theorem dd_226_2 : decode (mB 226) 2 = .ok (.invokevirtual 519, 3) := by decide +kernel
theorem dd_226_5 : decode (mB 226) 5 = .ok (.iconst 0, 1) := by decide +kernel
theorem dd_226_6 : decode (mB 226) 6 = .ok (.istore_n 3, 1) := by decide +kernel
theorem dd_226_7 : decode (mB 226) 7 = .ok (.iload_n 3, 1) := by decide +kernel
theorem dd_226_8 : decode (mB 226) 8 = .ok (.aload_n 0, 1) := by decide +kernel
theorem dd_226_9 : decode (mB 226) 9 = .ok (.getfield 372, 3) := by decide +kernel
theorem dd_226_12 : decode (mB 226) 12 = .ok (.if_icmp .ge 56, 3) := by decide +kernel
theorem dd_226_15 : decode (mB 226) 15 = .ok (.aload_n 0, 1) := by decide +kernel
theorem dd_226_16 : decode (mB 226) 16 = .ok (.getfield 177, 3) := by decide +kernel
theorem dd_226_19 : decode (mB 226) 19 = .ok (.iload_n 3, 1) := by decide +kernel
theorem dd_226_20 : decode (mB 226) 20 = .ok (.aload_n 0, 1) := by decide +kernel
theorem dd_226_21 : decode (mB 226) 21 = .ok (.getfield 105, 3) := by decide +kernel
theorem dd_226_24 : decode (mB 226) 24 = .ok (.iload_n 3, 1) := by decide +kernel
theorem dd_226_25 : decode (mB 226) 25 = .ok (.iaload, 1) := by decide +kernel
theorem dd_226_26 : decode (mB 226) 26 = .ok (.iconst 5, 1) := by decide +kernel
theorem dd_226_27 : decode (mB 226) 27 = .ok (.if_icmp .ne 12, 3) := by decide +kernel
theorem dd_226_30 : decode (mB 226) 30 = .ok (.aload_n 0, 1) := by decide +kernel
theorem dd_226_31 : decode (mB 226) 31 = .ok (.getfield 111, 3) := by decide +kernel
theorem dd_226_34 : decode (mB 226) 34 = .ok (.iload_n 3, 1) := by decide +kernel
theorem dd_226_35 : decode (mB 226) 35 = .ok (.iaload, 1) := by decide +kernel
theorem dd_226_36 : decode (mB 226) 36 = .ok (.goto 4, 3) := by decide +kernel
theorem dd_226_39 : decode (mB 226) 39 = .ok (.iconst (-1), 1) := by decide +kernel
theorem dd_226_40 : decode (mB 226) 40 = .ok (.iastore, 1) := by decide +kernel
theorem dd_226_41 : decode (mB 226) 41 = .ok (.aload_n 0, 1) := by decide +kernel
theorem dd_226_42 : decode (mB 226) 42 = .ok (.getfield 105, 3) := by decide +kernel
theorem dd_226_45 : decode (mB 226) 45 = .ok (.iload_n 3, 1) := by decide +kernel
theorem dd_226_46 : decode (mB 226) 46 = .ok (.iconst (-1), 1) := by decide +kernel
theorem dd_226_47 : decode (mB 226) 47 = .ok (.iastore, 1) := by decide +kernel
theorem dd_226_48 : decode (mB 226) 48 = .ok (.aload_n 0, 1) := by decide +kernel
theorem dd_226_49 : decode (mB 226) 49 = .ok (.getfield 108, 3) := by decide +kernel
theorem dd_226_52 : decode (mB 226) 52 = .ok (.iload_n 3, 1) := by decide +kernel
theorem dd_226_53 : decode (mB 226) 53 = .ok (.iconst (-1), 1) := by decide +kernel
theorem dd_226_54 : decode (mB 226) 54 = .ok (.iastore, 1) := by decide +kernel
theorem dd_226_55 : decode (mB 226) 55 = .ok (.aload_n 0, 1) := by decide +kernel
theorem dd_226_56 : decode (mB 226) 56 = .ok (.getfield 111, 3) := by decide +kernel
theorem dd_226_59 : decode (mB 226) 59 = .ok (.iload_n 3, 1) := by decide +kernel
theorem dd_226_60 : decode (mB 226) 60 = .ok (.iconst (-1), 1) := by decide +kernel
theorem dd_226_61 : decode (mB 226) 61 = .ok (.iastore, 1) := by decide +kernel
theorem dd_226_62 : decode (mB 226) 62 = .ok (.iinc 3 1, 3) := by decide +kernel
theorem dd_226_65 : decode (mB 226) 65 = .ok (.goto (-58), 3) := by decide +kernel
theorem dd_226_68 : decode (mB 226) 68 = .ok (.iconst 0, 1) := by decide +kernel
theorem dd_226_69 : decode (mB 226) 69 = .ok (.istore_n 3, 1) := by decide +kernel
theorem dd_226_70 : decode (mB 226) 70 = .ok (.iload_n 3, 1) := by decide +kernel
theorem dd_226_71 : decode (mB 226) 71 = .ok (.bipush 20, 2) := by decide +kernel
theorem dd_226_73 : decode (mB 226) 73 = .ok (.if_icmp .ge 16, 3) := by decide +kernel
theorem dd_226_76 : decode (mB 226) 76 = .ok (.aload_n 0, 1) := by decide +kernel
theorem dd_226_77 : decode (mB 226) 77 = .ok (.getfield 129, 3) := by decide +kernel
theorem dd_226_80 : decode (mB 226) 80 = .ok (.iload_n 3, 1) := by decide +kernel
theorem dd_226_81 : decode (mB 226) 81 = .ok (.iconst (-1), 1) := by decide +kernel
theorem dd_226_82 : decode (mB 226) 82 = .ok (.iastore, 1) := by decide +kernel
theorem dd_226_83 : decode (mB 226) 83 = .ok (.iinc 3 1, 3) := by decide +kernel
theorem dd_226_86 : decode (mB 226) 86 = .ok (.goto (-16), 3) := by decide +kernel
theorem dd_226_89 : decode (mB 226) 89 = .ok (.aload_n 0, 1) := by decide +kernel
theorem dd_226_90 : decode (mB 226) 90 = .ok (.iconst 0, 1) := by decide +kernel
theorem dd_226_91 : decode (mB 226) 91 = .ok (.putfield 418, 3) := by decide +kernel
theorem dd_226_94 : decode (mB 226) 94 = .ok (.aload_n 0, 1) := by decide +kernel
theorem dd_226_95 : decode (mB 226) 95 = .ok (.iload_n 2, 1) := by decide +kernel
theorem dd_226_96 : decode (mB 226) 96 = .ok (.invokevirtual 523, 3) := by decide +kernel
theorem dd_226_99 : decode (mB 226) 99 = .ok (.aload_n 0, 1) := by decide +kernel
theorem dd_226_100 : decode (mB 226) 100 = .ok (.iload_n 1, 1) := by decide +kernel
theorem dd_226_101 : decode (mB 226) 101 = .ok (.putfield 340, 3) := by decide +kernel
theorem dd_226_104 : decode (mB 226) 104 = .ok (.iconst 0, 1) := by decide +kernel
theorem dd_226_105 : decode (mB 226) 105 = .ok (.istore_n 3, 1) := by decide +kernel
theorem dd_226_106 : decode (mB 226) 106 = .ok (.iload_n 3, 1) := by decide +kernel
theorem dd_226_107 : decode (mB 226) 107 = .ok (.aload_n 0, 1) := by decide +kernel
theorem dd_226_108 : decode (mB 226) 108 = .ok (.getfield 378, 3) := by decide +kernel
theorem dd_226_111 : decode (mB 226) 111 = .ok (.if_icmp .ge 95, 3) := by decide +kernel
theorem dd_226_114 : decode (mB 226) 114 = .ok (.iconst 0, 1) := by decide +kernel
theorem dd_226_115 : decode (mB 226) 115 = .ok (.istore 4, 2) := by decide +kernel
theorem dd_226_117 : decode (mB 226) 117 = .ok (.iload 4, 2) := by decide +kernel
theorem dd_226_119 : decode (mB 226) 119 = .ok (.aload_n 0, 1) := by decide +kernel
theorem dd_226_120 : decode (mB 226) 120 = .ok (.getfield 372, 3) := by decide +kernel
theorem dd_226_123 : decode (mB 226) 123 = .ok (.if_icmp .ge 70, 3) := by decide +kernel
theorem dd_226_126 : decode (mB 226) 126 = .ok (.aload_n 0, 1) := by decide +kernel
theorem dd_226_127 : decode (mB 226) 127 = .ok (.getfield 96, 3) := by decide +kernel
theorem dd_226_130 : decode (mB 226) 130 = .ok (.iload 4, 2) := by decide +kernel
theorem dd_226_132 : decode (mB 226) 132 = .ok (.iaload, 1) := by decide +kernel
theorem dd_226_133 : decode (mB 226) 133 = .ok (.iload_n 3, 1) := by decide +kernel
theorem dd_226_134 : decode (mB 226) 134 = .ok (.if_icmp .ne 9, 3) := by decide +kernel
theorem dd_226_137 : decode (mB 226) 137 = .ok (.aload_n 0, 1) := by decide +kernel
theorem dd_226_138 : decode (mB 226) 138 = .ok (.iload 4, 2) := by decide +kernel
theorem dd_226_140 : decode (mB 226) 140 = .ok (.invokevirtual 384, 3) := by decide +kernel
theorem dd_226_143 : decode (mB 226) 143 = .ok (.aload_n 0, 1) := by decide +kernel
theorem dd_226_144 : decode (mB 226) 144 = .ok (.getfield 177, 3) := by decide +kernel
theorem dd_226_147 : decode (mB 226) 147 = .ok (.iload 4, 2) := by decide +kernel
theorem dd_226_149 : decode (mB 226) 149 = .ok (.iaload, 1) := by decide +kernel
theorem dd_226_150 : decode (mB 226) 150 = .ok (.iload_n 3, 1) := by decide +kernel
theorem dd_226_151 : decode (mB 226) 151 = .ok (.if_icmp .ne 36, 3) := by decide +kernel
theorem dd_226_154 : decode (mB 226) 154 = .ok (.aload_n 0, 1) := by decide +kernel
theorem dd_226_155 : decode (mB 226) 155 = .ok (.getfield 105, 3) := by decide +kernel
theorem dd_226_158 : decode (mB 226) 158 = .ok (.iload 4, 2) := by decide +kernel
theorem dd_226_160 : decode (mB 226) 160 = .ok (.iaload, 1) := by decide +kernel
theorem dd_226_161 : decode (mB 226) 161 = .ok (.ifCond .lt 26, 3) := by decide +kernel
theorem dd_226_164 : decode (mB 226) 164 = .ok (.aload_n 0, 1) := by decide +kernel
theorem dd_226_165 : decode (mB 226) 165 = .ok (.iload 4, 2) := by decide +kernel
theorem dd_226_167 : decode (mB 226) 167 = .ok (.invokevirtual 375, 3) := by decide +kernel
theorem dd_226_170 : decode (mB 226) 170 = .ok (.ifCond .eq 17, 3) := by decide +kernel
theorem dd_226_173 : decode (mB 226) 173 = .ok (.aload_n 0, 1) := by decide +kernel
theorem dd_226_174 : decode (mB 226) 174 = .ok (.iload 4, 2) := by decide +kernel
theorem dd_226_176 : decode (mB 226) 176 = .ok (.invokevirtual 397, 3) := by decide +kernel
theorem dd_226_179 : decode (mB 226) 179 = .ok (.aload_n 0, 1) := by decide +kernel
theorem dd_226_180 : decode (mB 226) 180 = .ok (.getfield 105, 3) := by decide +kernel
theorem dd_226_183 : decode (mB 226) 183 = .ok (.iload 4, 2) := by decide +kernel
theorem dd_226_185 : decode (mB 226) 185 = .ok (.iconst 5, 1) := by decide +kernel
theorem dd_226_186 : decode (mB 226) 186 = .ok (.iastore, 1) := by decide +kernel
theorem dd_226_187 : decode (mB 226) 187 = .ok (.iinc 4 1, 3) := by decide +kernel
theorem dd_226_190 : decode (mB 226) 190 = .ok (.goto (-73), 3) := by decide +kernel
theorem dd_226_193 : decode (mB 226) 193 = .ok (.aload_n 0, 1) := by decide +kernel
theorem dd_226_194 : decode (mB 226) 194 = .ok (.iload_n 3, 1) := by decide +kernel
theorem dd_226_195 : decode (mB 226) 195 = .ok (.invokevirtual 469, 3) := by decide +kernel
theorem dd_226_198 : decode (mB 226) 198 = .ok (.istore 4, 2) := by decide +kernel
theorem dd_226_200 : decode (mB 226) 200 = .ok (.iinc 3 1, 3) := by decide +kernel
theorem dd_226_203 : decode (mB 226) 203 = .ok (.goto (-97), 3) := by decide +kernel
theorem dd_226_206 : decode (mB 226) 206 = .ok (.aload_n 0, 1) := by decide +kernel
theorem dd_226_207 : decode (mB 226) 207 = .ok (.aload_n 0, 1) := by decide +kernel
theorem dd_226_208 : decode (mB 226) 208 = .ok (.invokevirtual 487, 3) := by decide +kernel
theorem dd_226_211 : decode (mB 226) 211 = .ok (.putfield 526, 3) := by decide +kernel
theorem dd_226_214 : decode (mB 226) 214 = .ok (.aload_n 0, 1) := by decide +kernel
theorem dd_226_215 : decode (mB 226) 215 = .ok (.aload_n 0, 1) := by decide +kernel
theorem dd_226_216 : decode (mB 226) 216 = .ok (.iconst 3, 1) := by decide +kernel
theorem dd_226_217 : decode (mB 226) 217 = .ok (.invokevirtual 478, 3) := by decide +kernel
theorem dd_226_220 : decode (mB 226) 220 = .ok (.putfield 529, 3) := by decide +kernel
theorem dd_226_223 : decode (mB 226) 223 = .ok (.aload_n 0, 1) := by decide +kernel
theorem dd_226_224 : decode (mB 226) 224 = .ok (.aload_n 0, 1) := by decide +kernel
theorem dd_226_225 : decode (mB 226) 225 = .ok (.iconst 4, 1) := by decide +kernel
theorem dd_226_226 : decode (mB 226) 226 = .ok (.invokevirtual 478, 3) := by decide +kernel
theorem dd_226_229 : decode (mB 226) 229 = .ok (.putfield 532, 3) := by decide +kernel
theorem dd_226_232 : decode (mB 226) 232 = .ok (.aload_n 0, 1) := by decide +kernel
theorem dd_226_233 : decode (mB 226) 233 = .ok (.aload_n 0, 1) := by decide +kernel
theorem dd_226_234 : decode (mB 226) 234 = .ok (.invokevirtual 490, 3) := by decide +kernel
theorem dd_226_237 : decode (mB 226) 237 = .ok (.putfield 535, 3) := by decide +kernel
theorem dd_226_240 : decode (mB 226) 240 = .ok (.aload_n 0, 1) := by decide +kernel
theorem dd_226_241 : decode (mB 226) 241 = .ok (.aload_n 0, 1) := by decide +kernel
theorem dd_226_242 : decode (mB 226) 242 = .ok (.getfield 418, 3) := by decide +kernel
theorem dd_226_245 : decode (mB 226) 245 = .ok (.putfield 538, 3) := by decide +kernel
theorem dd_226_248 : decode (mB 226) 248 = .ok (.aload_n 0, 1) := by decide +kernel
theorem dd_226_249 : decode (mB 226) 249 = .ok (.iconst 1, 1) := by decide +kernel
theorem dd_226_250 : decode (mB 226) 250 = .ok (.invokevirtual 519, 3) := by decide +kernel
theorem dd_226_253 : decode (mB 226) 253 = .ok (.aload_n 0, 1) := by decide +kernel
theorem dd_226_254 : decode (mB 226) 254 = .ok (.iconst 0, 1) := by decide +kernel
theorem dd_226_255 : decode (mB 226) 255 = .ok (.putfield 228, 3) := by decide +kernel
theorem dd_226_258 : decode (mB 226) 258 = .ok (.aload_n 0, 1) := by decide +kernel
theorem dd_226_259 : decode (mB 226) 259 = .ok (.iconst 0, 1) := by decide +kernel
theorem dd_226_260 : decode (mB 226) 260 = .ok (.putfield 202, 3) := by decide +kernel
theorem dd_226_263 : decode (mB 226) 263 = .ok (.aload_n 0, 1) := by decide +kernel
theorem dd_226_264 : decode (mB 226) 264 = .ok (.iconst 0, 1) := by decide +kernel
theorem dd_226_265 : decode (mB 226) 265 = .ok (.putfield 340, 3) := by decide +kernel
theorem dd_226_268 : decode (mB 226) 268 = .ok (.return_, 1) := by decide +kernel
theorem dd_227_0 : decode (mB 227) 0 = .ok (.iconst 0, 1) := by decide +kernel
theorem dd_227_1 : decode (mB 227) 1 = .ok (.istore_n 2, 1) := by decide +kernel
theorem dd_227_2 : decode (mB 227) 2 = .ok (.iload_n 2, 1) := by decide +kernel
theorem dd_227_3 : decode (mB 227) 3 = .ok (.bipush 40, 2) := by decide +kernel
theorem dd_227_5 : decode (mB 227) 5 = .ok (.if_icmp .ge 202, 3) := by decide +kernel
theorem dd_227_8 : decode (mB 227) 8 = .ok (.bipush 10, 2) := by decide +kernel
theorem dd_227_10 : decode (mB 227) 10 = .ok (.iload_n 2, 1) := by decide +kernel
theorem dd_227_11 : decode (mB 227) 11 = .ok (.imul, 1) := by decide +kernel
theorem dd_227_12 : decode (mB 227) 12 = .ok (.istore_n 3, 1) := by decide +kernel
theorem dd_227_13 : decode (mB 227) 13 = .ok (.aload_n 0, 1) := by decide +kernel
theorem dd_227_14 : decode (mB 227) 14 = .ok (.getfield 105, 3) := by decide +kernel
theorem dd_227_17 : decode (mB 227) 17 = .ok (.iload_n 2, 1) := by decide +kernel
theorem dd_227_18 : decode (mB 227) 18 = .ok (.aload_n 0, 1) := by decide +kernel
theorem dd_227_19 : decode (mB 227) 19 = .ok (.iload_n 3, 1) := by decide +kernel
theorem dd_227_20 : decode (mB 227) 20 = .ok (.aload_n 0, 1) := by decide +kernel
theorem dd_227_21 : decode (mB 227) 21 = .ok (.getfield 105, 3) := by decide +kernel
theorem dd_227_24 : decode (mB 227) 24 = .ok (.iload_n 2, 1) := by decide +kernel
theorem dd_227_25 : decode (mB 227) 25 = .ok (.iaload, 1) := by decide +kernel
theorem dd_227_26 : decode (mB 227) 26 = .ok (.iload_n 1, 1) := by decide +kernel
theorem dd_227_27 : decode (mB 227) 27 = .ok (.invokevirtual 516, 3) := by decide +kernel
theorem dd_227_30 : decode (mB 227) 30 = .ok (.iastore, 1) := by decide +kernel
theorem dd_227_31 : decode (mB 227) 31 = .ok (.aload_n 0, 1) := by decide +kernel
theorem dd_227_32 : decode (mB 227) 32 = .ok (.getfield 108, 3) := by decide +kernel
theorem dd_227_35 : decode (mB 227) 35 = .ok (.iload_n 2, 1) := by decide +kernel
theorem dd_227_36 : decode (mB 227) 36 = .ok (.aload_n 0, 1) := by decide +kernel
theorem dd_227_37 : decode (mB 227) 37 = .ok (.iload_n 3, 1) := by decide +kernel
theorem dd_227_38 : decode (mB 227) 38 = .ok (.iconst 1, 1) := by decide +kernel
theorem dd_227_39 : decode (mB 227) 39 = .ok (.iadd, 1) := by decide +kernel
theorem dd_227_40 : decode (mB 227) 40 = .ok (.aload_n 0, 1) := by decide +kernel
theorem dd_227_41 : decode (mB 227) 41 = .ok (.getfield 108, 3) := by decide +kernel
theorem dd_227_44 : decode (mB 227) 44 = .ok (.iload_n 2, 1) := by decide +kernel
theorem dd_227_45 : decode (mB 227) 45 = .ok (.iaload, 1) := by decide +kernel
theorem dd_227_46 : decode (mB 227) 46 = .ok (.iload_n 1, 1) := by decide +kernel
theorem dd_227_47 : decode (mB 227) 47 = .ok (.invokevirtual 516, 3) := by decide +kernel
theorem dd_227_50 : decode (mB 227) 50 = .ok (.iastore, 1) := by decide +kernel
theorem dd_227_51 : decode (mB 227) 51 = .ok (.aload_n 0, 1) := by decide +kernel
theorem dd_227_52 : decode (mB 227) 52 = .ok (.getfield 111, 3) := by decide +kernel
theorem dd_227_55 : decode (mB 227) 55 = .ok (.iload_n 2, 1) := by decide +kernel
theorem dd_227_56 : decode (mB 227) 56 = .ok (.aload_n 0, 1) := by decide +kernel
theorem dd_227_57 : decode (mB 227) 57 = .ok (.iload_n 3, 1) := by decide +kernel
theorem dd_227_58 : decode (mB 227) 58 = .ok (.iconst 2, 1) := by decide +kernel
theorem dd_227_59 : decode (mB 227) 59 = .ok (.iadd, 1) := by decide +kernel
theorem dd_227_60 : decode (mB 227) 60 = .ok (.aload_n 0, 1) := by decide +kernel
theorem dd_227_61 : decode (mB 227) 61 = .ok (.getfield 111, 3) := by decide +kernel
theorem dd_227_64 : decode (mB 227) 64 = .ok (.iload_n 2, 1) := by decide +kernel
theorem dd_227_65 : decode (mB 227) 65 = .ok (.iaload, 1) := by decide +kernel
theorem dd_227_66 : decode (mB 227) 66 = .ok (.iload_n 1, 1) := by decide +kernel
theorem dd_227_67 : decode (mB 227) 67 = .ok (.invokevirtual 516, 3) := by decide +kernel
theorem dd_227_70 : decode (mB 227) 70 = .ok (.iastore, 1) := by decide +kernel
theorem dd_227_71 : decode (mB 227) 71 = .ok (.aload_n 0, 1) := by decide +kernel
theorem dd_227_72 : decode (mB 227) 72 = .ok (.getfield 114, 3) := by decide +kernel
theorem dd_227_75 : decode (mB 227) 75 = .ok (.iload_n 2, 1) := by decide +kernel
theorem dd_227_76 : decode (mB 227) 76 = .ok (.aload_n 0, 1) := by decide +kernel
theorem dd_227_77 : decode (mB 227) 77 = .ok (.iload_n 3, 1) := by decide +kernel
theorem dd_227_78 : decode (mB 227) 78 = .ok (.iconst 3, 1) := by decide +kernel
theorem dd_227_79 : decode (mB 227) 79 = .ok (.iadd, 1) := by decide +kernel
theorem dd_227_80 : decode (mB 227) 80 = .ok (.aload_n 0, 1) := by decide +kernel
theorem dd_227_81 : decode (mB 227) 81 = .ok (.getfield 114, 3) := by decide +kernel
theorem dd_227_84 : decode (mB 227) 84 = .ok (.iload_n 2, 1) := by decide +kernel
theorem dd_227_85 : decode (mB 227) 85 = .ok (.iaload, 1) := by decide +kernel
theorem dd_227_86 : decode (mB 227) 86 = .ok (.iload_n 1, 1) := by decide +kernel
theorem dd_227_87 : decode (mB 227) 87 = .ok (.invokevirtual 516, 3) := by decide +kernel
theorem dd_227_90 : decode (mB 227) 90 = .ok (.iastore, 1) := by decide +kernel
theorem dd_227_91 : decode (mB 227) 91 = .ok (.aload_n 0, 1) := by decide +kernel
theorem dd_227_92 : decode (mB 227) 92 = .ok (.getfield 117, 3) := by decide +kernel
theorem dd_227_95 : decode (mB 227) 95 = .ok (.iload_n 2, 1) := by decide +kernel
theorem dd_227_96 : decode (mB 227) 96 = .ok (.aload_n 0, 1) := by decide +kernel
theorem dd_227_97 : decode (mB 227) 97 = .ok (.iload_n 3, 1) := by decide +kernel
theorem dd_227_98 : decode (mB 227) 98 = .ok (.iconst 4, 1) := by decide +kernel
theorem dd_227_99 : decode (mB 227) 99 = .ok (.iadd, 1) := by decide +kernel
theorem dd_227_100 : decode (mB 227) 100 = .ok (.aload_n 0, 1) := by decide +kernel
theorem dd_227_101 : decode (mB 227) 101 = .ok (.getfield 117, 3) := by decide +kernel
theorem dd_227_104 : decode (mB 227) 104 = .ok (.iload_n 2, 1) := by decide +kernel
theorem dd_227_105 : decode (mB 227) 105 = .ok (.iaload, 1) := by decide +kernel
theorem dd_227_106 : decode (mB 227) 106 = .ok (.iload_n 1, 1) := by decide +kernel
theorem dd_227_107 : decode (mB 227) 107 = .ok (.invokevirtual 516, 3) := by decide +kernel
theorem dd_227_110 : decode (mB 227) 110 = .ok (.iastore, 1) := by decide +kernel
theorem dd_227_111 : decode (mB 227) 111 = .ok (.aload_n 0, 1) := by decide +kernel
theorem dd_227_112 : decode (mB 227) 112 = .ok (.getfield 120, 3) := by decide +kernel
theorem dd_227_115 : decode (mB 227) 115 = .ok (.iload_n 2, 1) := by decide +kernel
theorem dd_227_116 : decode (mB 227) 116 = .ok (.aload_n 0, 1) := by decide +kernel
theorem dd_227_117 : decode (mB 227) 117 = .ok (.iload_n 3, 1) := by decide +kernel
theorem dd_227_118 : decode (mB 227) 118 = .ok (.iconst 5, 1) := by decide +kernel
theorem dd_227_119 : decode (mB 227) 119 = .ok (.iadd, 1) := by decide +kernel
theorem dd_227_120 : decode (mB 227) 120 = .ok (.aload_n 0, 1) := by decide +kernel
theorem dd_227_121 : decode (mB 227) 121 = .ok (.getfield 120, 3) := by decide +kernel
theorem dd_227_124 : decode (mB 227) 124 = .ok (.iload_n 2, 1) := by decide +kernel
theorem dd_227_125 : decode (mB 227) 125 = .ok (.iaload, 1) := by decide +kernel
theorem dd_227_126 : decode (mB 227) 126 = .ok (.iload_n 1, 1) := by decide +kernel
theorem dd_227_127 : decode (mB 227) 127 = .ok (.invokevirtual 516, 3) := by decide +kernel
theorem dd_227_130 : decode (mB 227) 130 = .ok (.iastore, 1) := by decide +kernel
theorem dd_227_131 : decode (mB 227) 131 = .ok (.aload_n 0, 1) := by decide +kernel
theorem dd_227_132 : decode (mB 227) 132 = .ok (.getfield 123, 3) := by decide +kernel
theorem dd_227_135 : decode (mB 227) 135 = .ok (.iload_n 2, 1) := by decide +kernel
theorem dd_227_136 : decode (mB 227) 136 = .ok (.aload_n 0, 1) := by decide +kernel
theorem dd_227_137 : decode (mB 227) 137 = .ok (.iload_n 3, 1) := by decide +kernel
theorem dd_227_138 : decode (mB 227) 138 = .ok (.bipush 6, 2) := by decide +kernel
theorem dd_227_140 : decode (mB 227) 140 = .ok (.iadd, 1) := by decide +kernel
theorem dd_227_141 : decode (mB 227) 141 = .ok (.aload_n 0, 1) := by decide +kernel
theorem dd_227_142 : decode (mB 227) 142 = .ok (.getfield 123, 3) := by decide +kernel
theorem dd_227_145 : decode (mB 227) 145 = .ok (.iload_n 2, 1) := by decide +kernel
theorem dd_227_146 : decode (mB 227) 146 = .ok (.iaload, 1) := by decide +kernel
theorem dd_227_147 : decode (mB 227) 147 = .ok (.iload_n 1, 1) := by decide +kernel
theorem dd_227_148 : decode (mB 227) 148 = .ok (.invokevirtual 516, 3) := by decide +kernel
theorem dd_227_151 : decode (mB 227) 151 = .ok (.iastore, 1) := by decide +kernel
theorem dd_227_152 : decode (mB 227) 152 = .ok (.iconst 0, 1) := by decide +kernel
theorem dd_227_153 : decode (mB 227) 153 = .ok (.istore 4, 2) := by decide +kernel
theorem dd_227_155 : decode (mB 227) 155 = .ok (.iload 4, 2) := by decide +kernel
theorem dd_227_157 : decode (mB 227) 157 = .ok (.iconst 3, 1) := by decide +kernel
theorem dd_227_158 : decode (mB 227) 158 = .ok (.if_icmp .ge 43, 3) := by decide +kernel
theorem dd_227_161 : decode (mB 227) 161 = .ok (.aload_n 0, 1) := by decide +kernel
theorem dd_227_162 : decode (mB 227) 162 = .ok (.getfield 126, 3) := by decide +kernel
theorem dd_227_165 : decode (mB 227) 165 = .ok (.iconst 3, 1) := by decide +kernel
theorem dd_227_166 : decode (mB 227) 166 = .ok (.iload_n 2, 1) := by decide +kernel
theorem dd_227_167 : decode (mB 227) 167 = .ok (.imul, 1) := by decide +kernel
theorem dd_227_168 : decode (mB 227) 168 = .ok (.iload 4, 2) := by decide +kernel
theorem dd_227_170 : decode (mB 227) 170 = .ok (.iadd, 1) := by decide +kernel
theorem dd_227_171 : decode (mB 227) 171 = .ok (.aload_n 0, 1) := by decide +kernel
theorem dd_227_172 : decode (mB 227) 172 = .ok (.iload_n 3, 1) := by decide +kernel
theorem dd_227_173 : decode (mB 227) 173 = .ok (.bipush 7, 2) := by decide +kernel
theorem dd_227_175 : decode (mB 227) 175 = .ok (.iadd, 1) := by decide +kernel
theorem dd_227_176 : decode (mB 227) 176 = .ok (.iload 4, 2) := by decide +kernel
theorem dd_227_178 : decode (mB 227) 178 = .ok (.iadd, 1) := by decide +kernel
theorem dd_227_179 : decode (mB 227) 179 = .ok (.aload_n 0, 1) := by decide +kernel
theorem dd_227_180 : decode (mB 227) 180 = .ok (.getfield 126, 3) := by decide +kernel
theorem dd_227_183 : decode (mB 227) 183 = .ok (.iconst 3, 1) := by decide +kernel
theorem dd_227_184 : decode (mB 227) 184 = .ok (.iload_n 2, 1) := by decide +kernel
theorem dd_227_185 : decode (mB 227) 185 = .ok (.imul, 1) := by decide +kernel
theorem dd_227_186 : decode (mB 227) 186 = .ok (.iload 4, 2) := by decide +kernel
theorem dd_227_188 : decode (mB 227) 188 = .ok (.iadd, 1) := by decide +kernel
theorem dd_227_189 : decode (mB 227) 189 = .ok (.iaload, 1) := by decide +kernel
theorem dd_227_190 : decode (mB 227) 190 = .ok (.iload_n 1, 1) := by decide +kernel
theorem dd_227_191 : decode (mB 227) 191 = .ok (.invokevirtual 516, 3) := by decide +kernel
theorem dd_227_194 : decode (mB 227) 194 = .ok (.iastore, 1) := by decide +kernel
theorem dd_227_195 : decode (mB 227) 195 = .ok (.iinc 4 1, 3) := by decide +kernel
theorem dd_227_198 : decode (mB 227) 198 = .ok (.goto (-43), 3) := by decide +kernel
theorem dd_227_201 : decode (mB 227) 201 = .ok (.iinc 2 1, 3) := by decide +kernel
theorem dd_227_204 : decode (mB 227) 204 = .ok (.goto (-202), 3) := by decide +kernel
theorem dd_227_207 : decode (mB 227) 207 = .ok (.iconst 0, 1) := by decide +kernel
theorem dd_227_208 : decode (mB 227) 208 = .ok (.istore_n 2, 1) := by decide +kernel
theorem dd_227_209 : decode (mB 227) 209 = .ok (.iload_n 2, 1) := by decide +kernel
theorem dd_227_210 : decode (mB 227) 210 = .ok (.bipush 20, 2) := by decide +kernel
theorem dd_227_212 : decode (mB 227) 212 = .ok (.if_icmp .ge 81, 3) := by decide +kernel
theorem dd_227_215 : decode (mB 227) 215 = .ok (.aload_n 0, 1) := by decide +kernel
theorem dd_227_216 : decode (mB 227) 216 = .ok (.getfield 129, 3) := by decide +kernel
theorem dd_227_219 : decode (mB 227) 219 = .ok (.iload_n 2, 1) := by decide +kernel
theorem dd_227_220 : decode (mB 227) 220 = .ok (.aload_n 0, 1) := by decide +kernel
theorem dd_227_221 : decode (mB 227) 221 = .ok (.sipush 400, 3) := by decide +kernel
theorem dd_227_224 : decode (mB 227) 224 = .ok (.iconst 3, 1) := by decide +kernel
theorem dd_227_225 : decode (mB 227) 225 = .ok (.iload_n 2, 1) := by decide +kernel
theorem dd_227_226 : decode (mB 227) 226 = .ok (.imul, 1) := by decide +kernel
theorem dd_227_227 : decode (mB 227) 227 = .ok (.iadd, 1) := by decide +kernel
theorem dd_227_228 : decode (mB 227) 228 = .ok (.aload_n 0, 1) := by decide +kernel
theorem dd_227_229 : decode (mB 227) 229 = .ok (.getfield 129, 3) := by decide +kernel
theorem dd_227_232 : decode (mB 227) 232 = .ok (.iload_n 2, 1) := by decide +kernel
theorem dd_227_233 : decode (mB 227) 233 = .ok (.iaload, 1) := by decide +kernel
theorem dd_227_234 : decode (mB 227) 234 = .ok (.iload_n 1, 1) := by decide +kernel
theorem dd_227_235 : decode (mB 227) 235 = .ok (.invokevirtual 516, 3) := by decide +kernel
theorem dd_227_238 : decode (mB 227) 238 = .ok (.iastore, 1) := by decide +kernel
theorem dd_227_239 : decode (mB 227) 239 = .ok (.aload_n 0, 1) := by decide +kernel
theorem dd_227_240 : decode (mB 227) 240 = .ok (.getfield 132, 3) := by decide +kernel
theorem dd_227_243 : decode (mB 227) 243 = .ok (.iload_n 2, 1) := by decide +kernel
theorem dd_227_244 : decode (mB 227) 244 = .ok (.aload_n 0, 1) := by decide +kernel
theorem dd_227_245 : decode (mB 227) 245 = .ok (.sipush 401, 3) := by decide +kernel
theorem dd_227_248 : decode (mB 227) 248 = .ok (.iconst 3, 1) := by decide +kernel
theorem dd_227_249 : decode (mB 227) 249 = .ok (.iload_n 2, 1) := by decide +kernel
theorem dd_227_250 : decode (mB 227) 250 = .ok (.imul, 1) := by decide +kernel
theorem dd_227_251 : decode (mB 227) 251 = .ok (.iadd, 1) := by decide +kernel
theorem dd_227_252 : decode (mB 227) 252 = .ok (.aload_n 0, 1) := by decide +kernel
theorem dd_227_253 : decode (mB 227) 253 = .ok (.getfield 132, 3) := by decide +kernel
theorem dd_227_256 : decode (mB 227) 256 = .ok (.iload_n 2, 1) := by decide +kernel
theorem dd_227_257 : decode (mB 227) 257 = .ok (.iaload, 1) := by decide +kernel
theorem dd_227_258 : decode (mB 227) 258 = .ok (.iload_n 1, 1) := by decide +kernel
theorem dd_227_259 : decode (mB 227) 259 = .ok (.invokevirtual 516, 3) := by decide +kernel
theorem dd_227_262 : decode (mB 227) 262 = .ok (.iastore, 1) := by decide +kernel
theorem dd_227_263 : decode (mB 227) 263 = .ok (.aload_n 0, 1) := by decide +kernel
theorem dd_227_264 : decode (mB 227) 264 = .ok (.getfield 135, 3) := by decide +kernel
theorem dd_227_267 : decode (mB 227) 267 = .ok (.iload_n 2, 1) := by decide +kernel
theorem dd_227_268 : decode (mB 227) 268 = .ok (.aload_n 0, 1) := by decide +kernel
theorem dd_227_269 : decode (mB 227) 269 = .ok (.sipush 402, 3) := by decide +kernel
theorem dd_227_272 : decode (mB 227) 272 = .ok (.iconst 3, 1) := by decide +kernel
theorem dd_227_273 : decode (mB 227) 273 = .ok (.iload_n 2, 1) := by decide +kernel
theorem dd_227_274 : decode (mB 227) 274 = .ok (.imul, 1) := by decide +kernel
theorem dd_227_275 : decode (mB 227) 275 = .ok (.iadd, 1) := by decide +kernel
theorem dd_227_276 : decode (mB 227) 276 = .ok (.aload_n 0, 1) := by decide +kernel
theorem dd_227_277 : decode (mB 227) 277 = .ok (.getfield 135, 3) := by decide +kernel
theorem dd_227_280 : decode (mB 227) 280 = .ok (.iload_n 2, 1) := by decide +kernel
theorem dd_227_281 : decode (mB 227) 281 = .ok (.iaload, 1) := by decide +kernel
theorem dd_227_282 : decode (mB 227) 282 = .ok (.iload_n 1, 1) := by decide +kernel
theorem dd_227_283 : decode (mB 227) 283 = .ok (.invokevirtual 516, 3) := by decide +kernel
theorem dd_227_286 : decode (mB 227) 286 = .ok (.iastore, 1) := by decide +kernel
theorem dd_227_287 : decode (mB 227) 287 = .ok (.iinc 2 1, 3) := by decide +kernel
theorem dd_227_290 : decode (mB 227) 290 = .ok (.goto (-81), 3) := by decide +kernel
theorem dd_227_293 : decode (mB 227) 293 = .ok (.aload_n 0, 1) := by decide +kernel
theorem dd_227_294 : decode (mB 227) 294 = .ok (.aload_n 0, 1) := by decide +kernel
theorem dd_227_295 : decode (mB 227) 295 = .ok (.sipush 460, 3) := by decide +kernel
theorem dd_227_298 : decode (mB 227) 298 = .ok (.aload_n 0, 1) := by decide +kernel
theorem dd_227_299 : decode (mB 227) 299 = .ok (.getfield 418, 3) := by decide +kernel
theorem dd_227_302 : decode (mB 227) 302 = .ok (.iload_n 1, 1) := by decide +kernel
theorem dd_227_303 : decode (mB 227) 303 = .ok (.invokevirtual 516, 3) := by decide +kernel
theorem dd_227_306 : decode (mB 227) 306 = .ok (.putfield 418, 3) := by decide +kernel
theorem dd_227_309 : decode (mB 227) 309 = .ok (.return_, 1) := by decide +kernel
theorem dd_228_0 : decode (mB 228) 0 = .ok (.iload_n 1, 1) := by decide +kernel
theorem dd_228_1 : decode (mB 228) 1 = .ok (.istore 4, 2) := by decide +kernel
theorem dd_228_3 : decode (mB 228) 3 = .ok (.iload_n 3, 1) := by decide +kernel
theorem dd_228_4 : decode (mB 228) 4 = .ok (.ifCond .ne 11, 3) := by decide +kernel
theorem dd_228_7 : decode (mB 228) 7 = .ok (.aload_n 0, 1) := by decide +kernel
theorem dd_228_8 : decode (mB 228) 8 = .ok (.getfield 138, 3) := by decide +kernel
theorem dd_228_11 : decode (mB 228) 11 = .ok (.iload 4, 2) := by decide +kernel
theorem dd_228_13 : decode (mB 228) 13 = .ok (.iload_n 2, 1) := by decide +kernel
theorem dd_228_14 : decode (mB 228) 14 = .ok (.iastore, 1) := by decide +kernel
theorem dd_228_15 : decode (mB 228) 15 = .ok (.aload_n 0, 1) := by decide +kernel
theorem dd_228_16 : decode (mB 228) 16 = .ok (.getfield 138, 3) := by decide +kernel
theorem dd_228_19 : decode (mB 228) 19 = .ok (.iload 4, 2) := by decide +kernel
theorem dd_228_21 : decode (mB 228) 21 = .ok (.iaload, 1) := by decide +kernel
theorem dd_228_22 : decode (mB 228) 22 = .ok (.ireturn, 1) := by decide +kernel
theorem dd_229_0 : decode (mB 229) 0 = .ok (.aload_n 0, 1) := by decide +kernel
theorem dd_229_1 : decode (mB 229) 1 = .ok (.iconst 0, 1) := by decide +kernel
theorem dd_229_2 : decode (mB 229) 2 = .ok (.putfield 228, 3) := by decide +kernel
theorem dd_229_5 : decode (mB 229) 5 = .ok (.iconst 0, 1) := by decide +kernel
theorem dd_229_6 : decode (mB 229) 6 = .ok (.istore_n 2, 1) := by decide +kernel
theorem dd_229_7 : decode (mB 229) 7 = .ok (.iload_n 2, 1) := by decide +kernel
theorem dd_229_8 : decode (mB 229) 8 = .ok (.aload_n 0, 1) := by decide +kernel
theorem dd_229_9 : decode (mB 229) 9 = .ok (.getfield 484, 3) := by decide +kernel
theorem dd_229_12 : decode (mB 229) 12 = .ok (.if_icmp .ge 88, 3) := by decide +kernel
theorem dd_229_15 : decode (mB 229) 15 = .ok (.iload_n 1, 1) := by decide +kernel
theorem dd_229_16 : decode (mB 229) 16 = .ok (.iload_n 2, 1) := by decide +kernel
theorem dd_229_17 : decode (mB 229) 17 = .ok (.ishr, 1) := by decide +kernel
theorem dd_229_18 : decode (mB 229) 18 = .ok (.iconst 1, 1) := by decide +kernel
theorem dd_229_19 : decode (mB 229) 19 = .ok (.iand, 1) := by decide +kernel
theorem dd_229_20 : decode (mB 229) 20 = .ok (.iconst 1, 1) := by decide +kernel
theorem dd_229_21 : decode (mB 229) 21 = .ok (.if_icmp .ne 73, 3) := by decide +kernel
theorem dd_229_24 : decode (mB 229) 24 = .ok (.aload_n 0, 1) := by decide +kernel
theorem dd_229_25 : decode (mB 229) 25 = .ok (.getfield 7, 3) := by decide +kernel
theorem dd_229_28 : decode (mB 229) 28 = .ok (.aload_n 0, 1) := by decide +kernel
theorem dd_229_29 : decode (mB 229) 29 = .ok (.getfield 187, 3) := by decide +kernel
theorem dd_229_32 : decode (mB 229) 32 = .ok (.aload_n 0, 1) := by decide +kernel
theorem dd_229_33 : decode (mB 229) 33 = .ok (.getfield 228, 3) := by decide +kernel
theorem dd_229_36 : decode (mB 229) 36 = .ok (.iadd, 1) := by decide +kernel
theorem dd_229_37 : decode (mB 229) 37 = .ok (.aload_n 0, 1) := by decide +kernel
theorem dd_229_38 : decode (mB 229) 38 = .ok (.getfield 165, 3) := by decide +kernel
theorem dd_229_41 : decode (mB 229) 41 = .ok (.iload_n 2, 1) := by decide +kernel
theorem dd_229_42 : decode (mB 229) 42 = .ok (.iaload, 1) := by decide +kernel
theorem dd_229_43 : decode (mB 229) 43 = .ok (.iastore, 1) := by decide +kernel
theorem dd_229_44 : decode (mB 229) 44 = .ok (.aload_n 0, 1) := by decide +kernel
theorem dd_229_45 : decode (mB 229) 45 = .ok (.getfield 13, 3) := by decide +kernel
theorem dd_229_48 : decode (mB 229) 48 = .ok (.aload_n 0, 1) := by decide +kernel
theorem dd_229_49 : decode (mB 229) 49 = .ok (.getfield 187, 3) := by decide +kernel
theorem dd_229_52 : decode (mB 229) 52 = .ok (.aload_n 0, 1) := by decide +kernel
theorem dd_229_53 : decode (mB 229) 53 = .ok (.getfield 228, 3) := by decide +kernel
theorem dd_229_56 : decode (mB 229) 56 = .ok (.iadd, 1) := by decide +kernel
theorem dd_229_57 : decode (mB 229) 57 = .ok (.aload_n 0, 1) := by decide +kernel
theorem dd_229_58 : decode (mB 229) 58 = .ok (.getfield 168, 3) := by decide +kernel
theorem dd_229_61 : decode (mB 229) 61 = .ok (.iload_n 2, 1) := by decide +kernel
theorem dd_229_62 : decode (mB 229) 62 = .ok (.iaload, 1) := by decide +kernel
theorem dd_229_63 : decode (mB 229) 63 = .ok (.iastore, 1) := by decide +kernel
theorem dd_229_64 : decode (mB 229) 64 = .ok (.aload_n 0, 1) := by decide +kernel
theorem dd_229_65 : decode (mB 229) 65 = .ok (.getfield 16, 3) := by decide +kernel
theorem dd_229_68 : decode (mB 229) 68 = .ok (.aload_n 0, 1) := by decide +kernel
theorem dd_229_69 : decode (mB 229) 69 = .ok (.getfield 187, 3) := by decide +kernel
theorem dd_229_72 : decode (mB 229) 72 = .ok (.aload_n 0, 1) := by decide +kernel
theorem dd_229_73 : decode (mB 229) 73 = .ok (.getfield 228, 3) := by decide +kernel
theorem dd_229_76 : decode (mB 229) 76 = .ok (.iadd, 1) := by decide +kernel
theorem dd_229_77 : decode (mB 229) 77 = .ok (.aload_n 0, 1) := by decide +kernel
theorem dd_229_78 : decode (mB 229) 78 = .ok (.getfield 171, 3) := by decide +kernel
theorem dd_229_81 : decode (mB 229) 81 = .ok (.iload_n 2, 1) := by decide +kernel
theorem dd_229_82 : decode (mB 229) 82 = .ok (.iaload, 1) := by decide +kernel
theorem dd_229_83 : decode (mB 229) 83 = .ok (.iastore, 1) := by decide +kernel
theorem dd_229_84 : decode (mB 229) 84 = .ok (.aload_n 0, 1) := by decide +kernel
theorem dd_229_85 : decode (mB 229) 85 = .ok (.dup, 1) := by decide +kernel
theorem dd_229_86 : decode (mB 229) 86 = .ok (.getfield 228, 3) := by decide +kernel
theorem dd_229_89 : decode (mB 229) 89 = .ok (.iconst 1, 1) := by decide +kernel
theorem dd_229_90 : decode (mB 229) 90 = .ok (.iadd, 1) := by decide +kernel
theorem dd_229_91 : decode (mB 229) 91 = .ok (.putfield 228, 3) := by decide +kernel
theorem dd_229_94 : decode (mB 229) 94 = .ok (.iinc 2 1, 3) := by decide +kernel
theorem dd_229_97 : decode (mB 229) 97 = .ok (.goto (-90), 3) := by decide +kernel
theorem dd_229_100 : decode (mB 229) 100 = .ok (.aload_n 0, 1) := by decide +kernel
theorem dd_229_101 : decode (mB 229) 101 = .ok (.iconst 0, 1) := by decide +kernel
theorem dd_229_102 : decode (mB 229) 102 = .ok (.putfield 202, 3) := by decide +kernel
theorem dd_229_105 : decode (mB 229) 105 = .ok (.return_, 1) := by decide +kernel
theorem dd_230_0 : decode (mB 230) 0 = .ok (.iload_n 1, 1) := by decide +kernel
theorem dd_230_1 : decode (mB 230) 1 = .ok (.i2l, 1) := by decide +kernel
theorem dd_230_2 : decode (mB 230) 2 = .ok (.lconst 0, 1) := by decide +kernel
theorem dd_230_3 : decode (mB 230) 3 = .ok (.ldc2_w 546, 3) := by decide +kernel
theorem dd_230_6 : decode (mB 230) 6 = .ok (.invokestatic 183, 3) := by decide +kernel
theorem dd_230_9 : decode (mB 230) 9 = .ok (.ifCond .eq 15, 3) := by decide +kernel
theorem dd_230_12 : decode (mB 230) 12 = .ok (.iload_n 2, 1) := by decide +kernel
theorem dd_230_13 : decode (mB 230) 13 = .ok (.i2l, 1) := by decide +kernel
theorem dd_230_14 : decode (mB 230) 14 = .ok (.lconst 0, 1) := by decide +kernel
theorem dd_230_15 : decode (mB 230) 15 = .ok (.ldc2_w 211, 3) := by decide +kernel
theorem dd_230_18 : decode (mB 230) 18 = .ok (.invokestatic 183, 3) := by decide +kernel
theorem dd_230_21 : decode (mB 230) 21 = .ok (.ifCond .ne 6, 3) := by decide +kernel
theorem dd_230_24 : decode (mB 230) 24 = .ok (.ldc 200, 2) := by decide +kernel
theorem dd_230_26 : decode (mB 230) 26 = .ok (.ireturn, 1) := by decide +kernel
theorem dd_230_27 : decode (mB 230) 27 = .ok (.iconst (-1), 1) := by decide +kernel
theorem dd_230_28 : decode (mB 230) 28 = .ok (.istore_n 3, 1) := by decide +kernel
theorem dd_230_29 : decode (mB 230) 29 = .ok (.iconst 0, 1) := by decide +kernel
theorem dd_230_30 : decode (mB 230) 30 = .ok (.istore 4, 2) := by decide +kernel
theorem dd_230_32 : decode (mB 230) 32 = .ok (.iconst 0, 1) := by decide +kernel
theorem dd_230_33 : decode (mB 230) 33 = .ok (.istore 5, 2) := by decide +kernel
theorem dd_230_35 : decode (mB 230) 35 = .ok (.iconst 0, 1) := by decide +kernel
theorem dd_230_36 : decode (mB 230) 36 = .ok (.istore 6, 2) := by decide +kernel
theorem dd_230_38 : decode (mB 230) 38 = .ok (.iload 6, 2) := by decide +kernel
theorem dd_230_40 : decode (mB 230) 40 = .ok (.iconst 1, 1) := by decide +kernel
theorem dd_230_41 : decode (mB 230) 41 = .ok (.aload_n 0, 1) := by decide +kernel
theorem dd_230_42 : decode (mB 230) 42 = .ok (.getfield 484, 3) := by decide +kernel
theorem dd_230_45 : decode (mB 230) 45 = .ok (.ishl, 1) := by decide +kernel
theorem dd_230_46 : decode (mB 230) 46 = .ok (.if_icmp .ge 105, 3) := by decide +kernel
theorem dd_230_49 : decode (mB 230) 49 = .ok (.iconst 0, 1) := by decide +kernel
theorem dd_230_50 : decode (mB 230) 50 = .ok (.istore 7, 2) := by decide +kernel
theorem dd_230_52 : decode (mB 230) 52 = .ok (.iconst 0, 1) := by decide +kernel
theorem dd_230_53 : decode (mB 230) 53 = .ok (.istore 8, 2) := by decide +kernel
theorem dd_230_55 : decode (mB 230) 55 = .ok (.iload 8, 2) := by decide +kernel
theorem dd_230_57 : decode (mB 230) 57 = .ok (.aload_n 0, 1) := by decide +kernel
theorem dd_230_58 : decode (mB 230) 58 = .ok (.getfield 484, 3) := by decide +kernel
theorem dd_230_61 : decode (mB 230) 61 = .ok (.if_icmp .ge 29, 3) := by decide +kernel
theorem dd_230_64 : decode (mB 230) 64 = .ok (.iload 7, 2) := by decide +kernel
theorem dd_230_66 : decode (mB 230) 66 = .ok (.iload 6, 2) := by decide +kernel
theorem dd_230_68 : decode (mB 230) 68 = .ok (.iload 8, 2) := by decide +kernel
theorem dd_230_70 : decode (mB 230) 70 = .ok (.ishr, 1) := by decide +kernel
theorem dd_230_71 : decode (mB 230) 71 = .ok (.iconst 1, 1) := by decide +kernel
theorem dd_230_72 : decode (mB 230) 72 = .ok (.iand, 1) := by decide +kernel
theorem dd_230_73 : decode (mB 230) 73 = .ok (.aload_n 0, 1) := by decide +kernel
theorem dd_230_74 : decode (mB 230) 74 = .ok (.getfield 174, 3) := by decide +kernel
theorem dd_230_77 : decode (mB 230) 77 = .ok (.iload 8, 2) := by decide +kernel
theorem dd_230_79 : decode (mB 230) 79 = .ok (.iaload, 1) := by decide +kernel
theorem dd_230_80 : decode (mB 230) 80 = .ok (.imul, 1) := by decide +kernel
theorem dd_230_81 : decode (mB 230) 81 = .ok (.iadd, 1) := by decide +kernel
theorem dd_230_82 : decode (mB 230) 82 = .ok (.istore 7, 2) := by decide +kernel
theorem dd_230_84 : decode (mB 230) 84 = .ok (.iinc 8 1, 3) := by decide +kernel
theorem dd_230_87 : decode (mB 230) 87 = .ok (.goto (-32), 3) := by decide +kernel
theorem dd_230_90 : decode (mB 230) 90 = .ok (.iload 7, 2) := by decide +kernel
theorem dd_230_92 : decode (mB 230) 92 = .ok (.iload_n 1, 1) := by decide +kernel
theorem dd_230_93 : decode (mB 230) 93 = .ok (.if_icmp .gt 52, 3) := by decide +kernel
theorem dd_230_96 : decode (mB 230) 96 = .ok (.aload_n 0, 1) := by decide +kernel
theorem dd_230_97 : decode (mB 230) 97 = .ok (.iconst 0, 1) := by decide +kernel
theorem dd_230_98 : decode (mB 230) 98 = .ok (.iload 6, 2) := by decide +kernel
theorem dd_230_100 : decode (mB 230) 100 = .ok (.invokevirtual 543, 3) := by decide +kernel
theorem dd_230_103 : decode (mB 230) 103 = .ok (.iload_n 3, 1) := by decide +kernel
theorem dd_230_104 : decode (mB 230) 104 = .ok (.ifCond .lt 28, 3) := by decide +kernel
theorem dd_230_107 : decode (mB 230) 107 = .ok (.aload_n 0, 1) := by decide +kernel
theorem dd_230_108 : decode (mB 230) 108 = .ok (.getfield 526, 3) := by decide +kernel
theorem dd_230_111 : decode (mB 230) 111 = .ok (.iload 5, 2) := by decide +kernel
theorem dd_230_113 : decode (mB 230) 113 = .ok (.if_icmp .lt 19, 3) := by decide +kernel
theorem dd_230_116 : decode (mB 230) 116 = .ok (.aload_n 0, 1) := by decide +kernel
theorem dd_230_117 : decode (mB 230) 117 = .ok (.getfield 526, 3) := by decide +kernel
theorem dd_230_120 : decode (mB 230) 120 = .ok (.iload 5, 2) := by decide +kernel
theorem dd_230_122 : decode (mB 230) 122 = .ok (.if_icmp .ne 23, 3) := by decide +kernel
theorem dd_230_125 : decode (mB 230) 125 = .ok (.iload 7, 2) := by decide +kernel
theorem dd_230_127 : decode (mB 230) 127 = .ok (.iload 4, 2) := by decide +kernel
theorem dd_230_129 : decode (mB 230) 129 = .ok (.if_icmp .ge 16, 3) := by decide +kernel
theorem dd_230_132 : decode (mB 230) 132 = .ok (.iload 6, 2) := by decide +kernel
theorem dd_230_134 : decode (mB 230) 134 = .ok (.istore_n 3, 1) := by decide +kernel
theorem dd_230_135 : decode (mB 230) 135 = .ok (.iload 7, 2) := by decide +kernel
theorem dd_230_137 : decode (mB 230) 137 = .ok (.istore 4, 2) := by decide +kernel
theorem dd_230_139 : decode (mB 230) 139 = .ok (.aload_n 0, 1) := by decide +kernel
theorem dd_230_140 : decode (mB 230) 140 = .ok (.getfield 526, 3) := by decide +kernel
theorem dd_230_143 : decode (mB 230) 143 = .ok (.istore 5, 2) := by decide +kernel
theorem dd_230_145 : decode (mB 230) 145 = .ok (.iinc 6 1, 3) := by decide +kernel
theorem dd_230_148 : decode (mB 230) 148 = .ok (.goto (-110), 3) := by decide +kernel
theorem dd_230_151 : decode (mB 230) 151 = .ok (.iload_n 2, 1) := by decide +kernel
theorem dd_230_152 : decode (mB 230) 152 = .ok (.ifCond .ne 7, 3) := by decide +kernel
theorem dd_230_155 : decode (mB 230) 155 = .ok (.iload_n 3, 1) := by decide +kernel
theorem dd_230_156 : decode (mB 230) 156 = .ok (.goto 15, 3) := by decide +kernel
theorem dd_230_159 : decode (mB 230) 159 = .ok (.iload_n 2, 1) := by decide +kernel
theorem dd_230_160 : decode (mB 230) 160 = .ok (.iconst 1, 1) := by decide +kernel
theorem dd_230_161 : decode (mB 230) 161 = .ok (.if_icmp .ne 8, 3) := by decide +kernel
theorem dd_230_164 : decode (mB 230) 164 = .ok (.iload 4, 2) := by decide +kernel
theorem dd_230_166 : decode (mB 230) 166 = .ok (.goto 5, 3) := by decide +kernel
theorem dd_230_169 : decode (mB 230) 169 = .ok (.iload 5, 2) := by decide +kernel
theorem dd_230_171 : decode (mB 230) 171 = .ok (.ireturn, 1) := by decide +kernel
