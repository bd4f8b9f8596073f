/-! what each byte says; written by wip/gen/gen28.py -/
theorem dd_145_35 : decode (mB 145) 35 = .ok (.iconst 1, 1) := by decide +kernel
theorem dd_145_36 : decode (mB 145) 36 = .ok (.iadd, 1) := by decide +kernel
theorem dd_145_37 : decode (mB 145) 37 = .ok (.aload_n 0, 1) := by decide +kernel
theorem dd_145_38 : decode (mB 145) 38 = .ok (.getfield 16, 3) := by decide +kernel
theorem dd_145_41 : decode (mB 145) 41 = .ok (.iload_n 3, 1) := by decide +kernel
theorem dd_145_42 : decode (mB 145) 42 = .ok (.iaload, 1) := by decide +kernel
theorem dd_145_43 : decode (mB 145) 43 = .ok (.invokevirtual 235, 3) := by decide +kernel
theorem dd_145_46 : decode (mB 145) 46 = .ok (.iconst 0, 1) := by decide +kernel
theorem dd_145_47 : decode (mB 145) 47 = .ok (.istore 5, 2) := by decide +kernel
theorem dd_145_49 : decode (mB 145) 49 = .ok (.iload 5, 2) := by decide +kernel
theorem dd_145_51 : decode (mB 145) 51 = .ok (.iload_n 2, 1) := by decide +kernel
theorem dd_145_52 : decode (mB 145) 52 = .ok (.if_icmp .ge 153, 3) := by decide +kernel
theorem dd_145_55 : decode (mB 145) 55 = .ok (.aload_n 0, 1) := by decide +kernel
theorem dd_145_56 : decode (mB 145) 56 = .ok (.iload 5, 2) := by decide +kernel
theorem dd_145_58 : decode (mB 145) 58 = .ok (.iload 4, 2) := by decide +kernel
theorem dd_145_60 : decode (mB 145) 60 = .ok (.invokevirtual 231, 3) := by decide +kernel
theorem dd_145_63 : decode (mB 145) 63 = .ok (.istore 6, 2) := by decide +kernel
theorem dd_145_65 : decode (mB 145) 65 = .ok (.iload 6, 2) := by decide +kernel
theorem dd_145_67 : decode (mB 145) 67 = .ok (.ifCond .lt 132, 3) := by decide +kernel
theorem dd_145_70 : decode (mB 145) 70 = .ok (.iload 6, 2) := by decide +kernel
theorem dd_145_72 : decode (mB 145) 72 = .ok (.iload_n 1, 1) := by decide +kernel
theorem dd_145_73 : decode (mB 145) 73 = .ok (.if_icmp .eq 126, 3) := by decide +kernel
theorem dd_145_76 : decode (mB 145) 76 = .ok (.aload_n 0, 1) := by decide +kernel
theorem dd_145_77 : decode (mB 145) 77 = .ok (.iload_n 1, 1) := by decide +kernel
theorem dd_145_78 : decode (mB 145) 78 = .ok (.iload 6, 2) := by decide +kernel
theorem dd_145_80 : decode (mB 145) 80 = .ok (.bipush 32, 2) := by decide +kernel
theorem dd_145_82 : decode (mB 145) 82 = .ok (.iload_n 3, 1) := by decide +kernel
theorem dd_145_83 : decode (mB 145) 83 = .ok (.iconst 1, 1) := by decide +kernel
theorem dd_145_84 : decode (mB 145) 84 = .ok (.iadd, 1) := by decide +kernel
theorem dd_145_85 : decode (mB 145) 85 = .ok (.imul, 1) := by decide +kernel
theorem dd_145_86 : decode (mB 145) 86 = .ok (.iload 5, 2) := by decide +kernel
theorem dd_145_88 : decode (mB 145) 88 = .ok (.iadd, 1) := by decide +kernel
theorem dd_145_89 : decode (mB 145) 89 = .ok (.iconst 1, 1) := by decide +kernel
theorem dd_145_90 : decode (mB 145) 90 = .ok (.iadd, 1) := by decide +kernel
theorem dd_145_91 : decode (mB 145) 91 = .ok (.aload_n 0, 1) := by decide +kernel
theorem dd_145_92 : decode (mB 145) 92 = .ok (.getfield 16, 3) := by decide +kernel
theorem dd_145_95 : decode (mB 145) 95 = .ok (.iload_n 3, 1) := by decide +kernel
theorem dd_145_96 : decode (mB 145) 96 = .ok (.iaload, 1) := by decide +kernel
theorem dd_145_97 : decode (mB 145) 97 = .ok (.aload_n 0, 1) := by decide +kernel
theorem dd_145_98 : decode (mB 145) 98 = .ok (.getfield 16, 3) := by decide +kernel
theorem dd_145_101 : decode (mB 145) 101 = .ok (.iload 5, 2) := by decide +kernel
theorem dd_145_103 : decode (mB 145) 103 = .ok (.iaload, 1) := by decide +kernel
theorem dd_145_104 : decode (mB 145) 104 = .ok (.iadd, 1) := by decide +kernel
theorem dd_145_105 : decode (mB 145) 105 = .ok (.invokevirtual 235, 3) := by decide +kernel
theorem dd_145_108 : decode (mB 145) 108 = .ok (.iconst 0, 1) := by decide +kernel
theorem dd_145_109 : decode (mB 145) 109 = .ok (.istore 7, 2) := by decide +kernel
theorem dd_145_111 : decode (mB 145) 111 = .ok (.iload 7, 2) := by decide +kernel
theorem dd_145_113 : decode (mB 145) 113 = .ok (.iload_n 2, 1) := by decide +kernel
theorem dd_145_114 : decode (mB 145) 114 = .ok (.if_icmp .ge 85, 3) := by decide +kernel
theorem dd_145_117 : decode (mB 145) 117 = .ok (.aload_n 0, 1) := by decide +kernel
theorem dd_145_118 : decode (mB 145) 118 = .ok (.iload 7, 2) := by decide +kernel
theorem dd_145_120 : decode (mB 145) 120 = .ok (.iload 6, 2) := by decide +kernel
theorem dd_145_122 : decode (mB 145) 122 = .ok (.invokevirtual 231, 3) := by decide +kernel
theorem dd_145_125 : decode (mB 145) 125 = .ok (.istore 8, 2) := by decide +kernel
theorem dd_145_127 : decode (mB 145) 127 = .ok (.iload 8, 2) := by decide +kernel
theorem dd_145_129 : decode (mB 145) 129 = .ok (.ifCond .lt 64, 3) := by decide +kernel
theorem dd_145_132 : decode (mB 145) 132 = .ok (.iload 8, 2) := by decide +kernel
theorem dd_145_134 : decode (mB 145) 134 = .ok (.iload_n 1, 1) := by decide +kernel
theorem dd_145_135 : decode (mB 145) 135 = .ok (.if_icmp .eq 58, 3) := by decide +kernel
theorem dd_145_138 : decode (mB 145) 138 = .ok (.iload 8, 2) := by decide +kernel
theorem dd_145_140 : decode (mB 145) 140 = .ok (.iload 4, 2) := by decide +kernel
theorem dd_145_142 : decode (mB 145) 142 = .ok (.if_icmp .eq 51, 3) := by decide +kernel
theorem dd_145_145 : decode (mB 145) 145 = .ok (.aload_n 0, 1) := by decide +kernel
theorem dd_145_146 : decode (mB 145) 146 = .ok (.iload_n 1, 1) := by decide +kernel
theorem dd_145_147 : decode (mB 145) 147 = .ok (.iload 8, 2) := by decide +kernel
theorem dd_145_149 : decode (mB 145) 149 = .ok (.bipush 32, 2) := by decide +kernel
theorem dd_145_151 : decode (mB 145) 151 = .ok (.bipush 32, 2) := by decide +kernel
theorem dd_145_153 : decode (mB 145) 153 = .ok (.iload_n 3, 1) := by decide +kernel
theorem dd_145_154 : decode (mB 145) 154 = .ok (.iconst 1, 1) := by decide +kernel
theorem dd_145_155 : decode (mB 145) 155 = .ok (.iadd, 1) := by decide +kernel
theorem dd_145_156 : decode (mB 145) 156 = .ok (.imul, 1) := by decide +kernel
theorem dd_145_157 : decode (mB 145) 157 = .ok (.iload 5, 2) := by decide +kernel
theorem dd_145_159 : decode (mB 145) 159 = .ok (.iadd, 1) := by decide +kernel
theorem dd_145_160 : decode (mB 145) 160 = .ok (.iconst 1, 1) := by decide +kernel
theorem dd_145_161 : decode (mB 145) 161 = .ok (.iadd, 1) := by decide +kernel
theorem dd_145_162 : decode (mB 145) 162 = .ok (.imul, 1) := by decide +kernel
theorem dd_145_163 : decode (mB 145) 163 = .ok (.iload 7, 2) := by decide +kernel
theorem dd_145_165 : decode (mB 145) 165 = .ok (.iadd, 1) := by decide +kernel
theorem dd_145_166 : decode (mB 145) 166 = .ok (.iconst 1, 1) := by decide +kernel
theorem dd_145_167 : decode (mB 145) 167 = .ok (.iadd, 1) := by decide +kernel
theorem dd_145_168 : decode (mB 145) 168 = .ok (.aload_n 0, 1) := by decide +kernel
theorem dd_145_169 : decode (mB 145) 169 = .ok (.getfield 16, 3) := by decide +kernel
theorem dd_145_172 : decode (mB 145) 172 = .ok (.iload_n 3, 1) := by decide +kernel
theorem dd_145_173 : decode (mB 145) 173 = .ok (.iaload, 1) := by decide +kernel
theorem dd_145_174 : decode (mB 145) 174 = .ok (.aload_n 0, 1) := by decide +kernel
theorem dd_145_175 : decode (mB 145) 175 = .ok (.getfield 16, 3) := by decide +kernel
theorem dd_145_178 : decode (mB 145) 178 = .ok (.iload 5, 2) := by decide +kernel
theorem dd_145_180 : decode (mB 145) 180 = .ok (.iaload, 1) := by decide +kernel
theorem dd_145_181 : decode (mB 145) 181 = .ok (.iadd, 1) := by decide +kernel
theorem dd_145_182 : decode (mB 145) 182 = .ok (.aload_n 0, 1) := by decide +kernel
theorem dd_145_183 : decode (mB 145) 183 = .ok (.getfield 16, 3) := by decide +kernel
theorem dd_145_186 : decode (mB 145) 186 = .ok (.iload 7, 2) := by decide +kernel
theorem dd_145_188 : decode (mB 145) 188 = .ok (.iaload, 1) := by decide +kernel
theorem dd_145_189 : decode (mB 145) 189 = .ok (.iadd, 1) := by decide +kernel
theorem dd_145_190 : decode (mB 145) 190 = .ok (.invokevirtual 235, 3) := by decide +kernel
theorem dd_145_193 : decode (mB 145) 193 = .ok (.iinc 7 1, 3) := by decide +kernel
theorem dd_145_196 : decode (mB 145) 196 = .ok (.goto (-85), 3) := by decide +kernel
theorem dd_145_199 : decode (mB 145) 199 = .ok (.iinc 5 1, 3) := by decide +kernel
theorem dd_145_202 : decode (mB 145) 202 = .ok (.goto (-153), 3) := by decide +kernel
theorem dd_145_205 : decode (mB 145) 205 = .ok (.iinc 3 1, 3) := by decide +kernel
theorem dd_145_208 : decode (mB 145) 208 = .ok (.goto (-196), 3) := by decide +kernel
theorem dd_145_211 : decode (mB 145) 211 = .ok (.return_, 1) := by decide +kernel
theorem dd_146_0 : decode (mB 146) 0 = .ok (.aload_n 0, 1) := by decide +kernel
theorem dd_146_1 : decode (mB 146) 1 = .ok (.getfield 7, 3) := by decide +kernel
theorem dd_146_4 : decode (mB 146) 4 = .ok (.iload_n 1, 1) := by decide +kernel
theorem dd_146_5 : decode (mB 146) 5 = .ok (.iaload, 1) := by decide +kernel
theorem dd_146_6 : decode (mB 146) 6 = .ok (.iload_n 2, 1) := by decide +kernel
theorem dd_146_7 : decode (mB 146) 7 = .ok (.if_icmp .ne 12, 3) := by decide +kernel
theorem dd_146_10 : decode (mB 146) 10 = .ok (.aload_n 0, 1) := by decide +kernel
theorem dd_146_11 : decode (mB 146) 11 = .ok (.getfield 13, 3) := by decide +kernel
theorem dd_146_14 : decode (mB 146) 14 = .ok (.iload_n 1, 1) := by decide +kernel
theorem dd_146_15 : decode (mB 146) 15 = .ok (.iaload, 1) := by decide +kernel
theorem dd_146_16 : decode (mB 146) 16 = .ok (.goto 23, 3) := by decide +kernel
theorem dd_146_19 : decode (mB 146) 19 = .ok (.aload_n 0, 1) := by decide +kernel
theorem dd_146_20 : decode (mB 146) 20 = .ok (.getfield 13, 3) := by decide +kernel
theorem dd_146_23 : decode (mB 146) 23 = .ok (.iload_n 1, 1) := by decide +kernel
theorem dd_146_24 : decode (mB 146) 24 = .ok (.iaload, 1) := by decide +kernel
theorem dd_146_25 : decode (mB 146) 25 = .ok (.iload_n 2, 1) := by decide +kernel
theorem dd_146_26 : decode (mB 146) 26 = .ok (.if_icmp .ne 12, 3) := by decide +kernel
theorem dd_146_29 : decode (mB 146) 29 = .ok (.aload_n 0, 1) := by decide +kernel
theorem dd_146_30 : decode (mB 146) 30 = .ok (.getfield 7, 3) := by decide +kernel
theorem dd_146_33 : decode (mB 146) 33 = .ok (.iload_n 1, 1) := by decide +kernel
theorem dd_146_34 : decode (mB 146) 34 = .ok (.iaload, 1) := by decide +kernel
theorem dd_146_35 : decode (mB 146) 35 = .ok (.goto 4, 3) := by decide +kernel
theorem dd_146_38 : decode (mB 146) 38 = .ok (.iconst (-1), 1) := by decide +kernel
theorem dd_146_39 : decode (mB 146) 39 = .ok (.ireturn, 1) := by decide +kernel
theorem dd_147_0 : decode (mB 147) 0 = .ok (.aload_n 0, 1) := by decide +kernel
theorem dd_147_1 : decode (mB 147) 1 = .ok (.getfield 34, 3) := by decide +kernel
theorem dd_147_4 : decode (mB 147) 4 = .ok (.aload_n 0, 1) := by decide +kernel
theorem dd_147_5 : decode (mB 147) 5 = .ok (.getfield 225, 3) := by decide +kernel
theorem dd_147_8 : decode (mB 147) 8 = .ok (.bipush 8, 2) := by decide +kernel
theorem dd_147_10 : decode (mB 147) 10 = .ok (.iload_n 1, 1) := by decide +kernel
theorem dd_147_11 : decode (mB 147) 11 = .ok (.imul, 1) := by decide +kernel
theorem dd_147_12 : decode (mB 147) 12 = .ok (.iload_n 2, 1) := by decide +kernel
theorem dd_147_13 : decode (mB 147) 13 = .ok (.iadd, 1) := by decide +kernel
theorem dd_147_14 : decode (mB 147) 14 = .ok (.iastore, 1) := by decide +kernel
theorem dd_147_15 : decode (mB 147) 15 = .ok (.aload_n 0, 1) := by decide +kernel
theorem dd_147_16 : decode (mB 147) 16 = .ok (.getfield 37, 3) := by decide +kernel
theorem dd_147_19 : decode (mB 147) 19 = .ok (.aload_n 0, 1) := by decide +kernel
theorem dd_147_20 : decode (mB 147) 20 = .ok (.getfield 225, 3) := by decide +kernel
theorem dd_147_23 : decode (mB 147) 23 = .ok (.iload_n 3, 1) := by decide +kernel
theorem dd_147_24 : decode (mB 147) 24 = .ok (.iastore, 1) := by decide +kernel
theorem dd_147_25 : decode (mB 147) 25 = .ok (.aload_n 0, 1) := by decide +kernel
theorem dd_147_26 : decode (mB 147) 26 = .ok (.getfield 40, 3) := by decide +kernel
theorem dd_147_29 : decode (mB 147) 29 = .ok (.aload_n 0, 1) := by decide +kernel
theorem dd_147_30 : decode (mB 147) 30 = .ok (.getfield 225, 3) := by decide +kernel
theorem dd_147_33 : decode (mB 147) 33 = .ok (.iload 4, 2) := by decide +kernel
theorem dd_147_35 : decode (mB 147) 35 = .ok (.iastore, 1) := by decide +kernel
theorem dd_147_36 : decode (mB 147) 36 = .ok (.aload_n 0, 1) := by decide +kernel
theorem dd_147_37 : decode (mB 147) 37 = .ok (.dup, 1) := by decide +kernel
theorem dd_147_38 : decode (mB 147) 38 = .ok (.getfield 225, 3) := by decide +kernel
theorem dd_147_41 : decode (mB 147) 41 = .ok (.iconst 1, 1) := by decide +kernel
theorem dd_147_42 : decode (mB 147) 42 = .ok (.iadd, 1) := by decide +kernel
theorem dd_147_43 : decode (mB 147) 43 = .ok (.putfield 225, 3) := by decide +kernel
theorem dd_147_46 : decode (mB 147) 46 = .ok (.return_, 1) := by decide +kernel
theorem dd_148_0 : decode (mB 148) 0 = .ok (.iload_n 1, 1) := by decide +kernel
theorem dd_148_1 : decode (mB 148) 1 = .ok (.istore_n 3, 1) := by decide +kernel
theorem dd_148_2 : decode (mB 148) 2 = .ok (.iconst 1, 1) := by decide +kernel
theorem dd_148_3 : decode (mB 148) 3 = .ok (.istore 4, 2) := by decide +kernel
theorem dd_148_5 : decode (mB 148) 5 = .ok (.iload 4, 2) := by decide +kernel
theorem dd_148_7 : decode (mB 148) 7 = .ok (.ifCond .eq 86, 3) := by decide +kernel
theorem dd_148_10 : decode (mB 148) 10 = .ok (.iload_n 3, 1) := by decide +kernel
theorem dd_148_11 : decode (mB 148) 11 = .ok (.istore 5, 2) := by decide +kernel
theorem dd_148_13 : decode (mB 148) 13 = .ok (.iconst 2, 1) := by decide +kernel
theorem dd_148_14 : decode (mB 148) 14 = .ok (.iload_n 3, 1) := by decide +kernel
theorem dd_148_15 : decode (mB 148) 15 = .ok (.imul, 1) := by decide +kernel
theorem dd_148_16 : decode (mB 148) 16 = .ok (.iconst 1, 1) := by decide +kernel
theorem dd_148_17 : decode (mB 148) 17 = .ok (.iadd, 1) := by decide +kernel
theorem dd_148_18 : decode (mB 148) 18 = .ok (.istore 6, 2) := by decide +kernel
theorem dd_148_20 : decode (mB 148) 20 = .ok (.iload 6, 2) := by decide +kernel
theorem dd_148_22 : decode (mB 148) 22 = .ok (.iconst 2, 1) := by decide +kernel
theorem dd_148_23 : decode (mB 148) 23 = .ok (.iload_n 3, 1) := by decide +kernel
theorem dd_148_24 : decode (mB 148) 24 = .ok (.imul, 1) := by decide +kernel
theorem dd_148_25 : decode (mB 148) 25 = .ok (.iconst 2, 1) := by decide +kernel
theorem dd_148_26 : decode (mB 148) 26 = .ok (.iadd, 1) := by decide +kernel
theorem dd_148_27 : decode (mB 148) 27 = .ok (.if_icmp .gt 35, 3) := by decide +kernel
theorem dd_148_30 : decode (mB 148) 30 = .ok (.iload 6, 2) := by decide +kernel
theorem dd_148_32 : decode (mB 148) 32 = .ok (.iload_n 2, 1) := by decide +kernel
theorem dd_148_33 : decode (mB 148) 33 = .ok (.if_icmp .ge 29, 3) := by decide +kernel
theorem dd_148_36 : decode (mB 148) 36 = .ok (.aload_n 0, 1) := by decide +kernel
theorem dd_148_37 : decode (mB 148) 37 = .ok (.iload 5, 2) := by decide +kernel
theorem dd_148_39 : decode (mB 148) 39 = .ok (.iload 6, 2) := by decide +kernel
theorem dd_148_41 : decode (mB 148) 41 = .ok (.invokevirtual 239, 3) := by decide +kernel
theorem dd_148_44 : decode (mB 148) 44 = .ok (.ifCond .eq 8, 3) := by decide +kernel
theorem dd_148_47 : decode (mB 148) 47 = .ok (.iload 6, 2) := by decide +kernel
theorem dd_148_49 : decode (mB 148) 49 = .ok (.goto 5, 3) := by decide +kernel
theorem dd_148_52 : decode (mB 148) 52 = .ok (.iload 5, 2) := by decide +kernel
theorem dd_148_54 : decode (mB 148) 54 = .ok (.istore 5, 2) := by decide +kernel
theorem dd_148_56 : decode (mB 148) 56 = .ok (.iinc 6 1, 3) := by decide +kernel
theorem dd_148_59 : decode (mB 148) 59 = .ok (.goto (-39), 3) := by decide +kernel
theorem dd_148_62 : decode (mB 148) 62 = .ok (.iload 5, 2) := by decide +kernel
theorem dd_148_64 : decode (mB 148) 64 = .ok (.iload_n 3, 1) := by decide +kernel
theorem dd_148_65 : decode (mB 148) 65 = .ok (.if_icmp .eq 7, 3) := by decide +kernel
theorem dd_148_68 : decode (mB 148) 68 = .ok (.iconst 1, 1) := by decide +kernel
theorem dd_148_69 : decode (mB 148) 69 = .ok (.goto 4, 3) := by decide +kernel
theorem dd_148_72 : decode (mB 148) 72 = .ok (.iconst 0, 1) := by decide +kernel
theorem dd_148_73 : decode (mB 148) 73 = .ok (.istore 4, 2) := by decide +kernel
theorem dd_148_75 : decode (mB 148) 75 = .ok (.iload 4, 2) := by decide +kernel
theorem dd_148_77 : decode (mB 148) 77 = .ok (.ifCond .eq 13, 3) := by decide +kernel
theorem dd_148_80 : decode (mB 148) 80 = .ok (.aload_n 0, 1) := by decide +kernel
theorem dd_148_81 : decode (mB 148) 81 = .ok (.iload_n 3, 1) := by decide +kernel
theorem dd_148_82 : decode (mB 148) 82 = .ok (.iload 5, 2) := by decide +kernel
theorem dd_148_84 : decode (mB 148) 84 = .ok (.invokevirtual 243, 3) := by decide +kernel
theorem dd_148_87 : decode (mB 148) 87 = .ok (.iload 5, 2) := by decide +kernel
theorem dd_148_89 : decode (mB 148) 89 = .ok (.istore_n 3, 1) := by decide +kernel
theorem dd_148_90 : decode (mB 148) 90 = .ok (.goto (-85), 3) := by decide +kernel
theorem dd_148_93 : decode (mB 148) 93 = .ok (.return_, 1) := by decide +kernel
theorem dd_149_0 : decode (mB 149) 0 = .ok (.aload_n 0, 1) := by decide +kernel
theorem dd_149_1 : decode (mB 149) 1 = .ok (.getfield 34, 3) := by decide +kernel
theorem dd_149_4 : decode (mB 149) 4 = .ok (.iload_n 1, 1) := by decide +kernel
theorem dd_149_5 : decode (mB 149) 5 = .ok (.iaload, 1) := by decide +kernel
theorem dd_149_6 : decode (mB 149) 6 = .ok (.aload_n 0, 1) := by decide +kernel
theorem dd_149_7 : decode (mB 149) 7 = .ok (.getfield 34, 3) := by decide +kernel
theorem dd_149_10 : decode (mB 149) 10 = .ok (.iload_n 2, 1) := by decide +kernel
theorem dd_149_11 : decode (mB 149) 11 = .ok (.iaload, 1) := by decide +kernel
theorem dd_149_12 : decode (mB 149) 12 = .ok (.if_icmp .eq 24, 3) := by decide +kernel
theorem dd_149_15 : decode (mB 149) 15 = .ok (.aload_n 0, 1) := by decide +kernel
theorem dd_149_16 : decode (mB 149) 16 = .ok (.getfield 34, 3) := by decide +kernel
theorem dd_149_19 : decode (mB 149) 19 = .ok (.iload_n 1, 1) := by decide +kernel
theorem dd_149_20 : decode (mB 149) 20 = .ok (.iaload, 1) := by decide +kernel
theorem dd_149_21 : decode (mB 149) 21 = .ok (.aload_n 0, 1) := by decide +kernel
theorem dd_149_22 : decode (mB 149) 22 = .ok (.getfield 34, 3) := by decide +kernel
theorem dd_149_25 : decode (mB 149) 25 = .ok (.iload_n 2, 1) := by decide +kernel
theorem dd_149_26 : decode (mB 149) 26 = .ok (.iaload, 1) := by decide +kernel
theorem dd_149_27 : decode (mB 149) 27 = .ok (.if_icmp .ge 7, 3) := by decide +kernel
theorem dd_149_30 : decode (mB 149) 30 = .ok (.iconst 1, 1) := by decide +kernel
theorem dd_149_31 : decode (mB 149) 31 = .ok (.goto 4, 3) := by decide +kernel
theorem dd_149_34 : decode (mB 149) 34 = .ok (.iconst 0, 1) := by decide +kernel
theorem dd_149_35 : decode (mB 149) 35 = .ok (.ireturn, 1) := by decide +kernel
theorem dd_149_36 : decode (mB 149) 36 = .ok (.aload_n 0, 1) := by decide +kernel
theorem dd_149_37 : decode (mB 149) 37 = .ok (.iload_n 1, 1) := by decide +kernel
theorem dd_149_38 : decode (mB 149) 38 = .ok (.invokevirtual 221, 3) := by decide +kernel
theorem dd_149_41 : decode (mB 149) 41 = .ok (.aload_n 0, 1) := by decide +kernel
theorem dd_149_42 : decode (mB 149) 42 = .ok (.iload_n 2, 1) := by decide +kernel
theorem dd_149_43 : decode (mB 149) 43 = .ok (.invokevirtual 221, 3) := by decide +kernel
theorem dd_149_46 : decode (mB 149) 46 = .ok (.if_icmp .eq 22, 3) := by decide +kernel
theorem dd_149_49 : decode (mB 149) 49 = .ok (.aload_n 0, 1) := by decide +kernel
theorem dd_149_50 : decode (mB 149) 50 = .ok (.iload_n 1, 1) := by decide +kernel
theorem dd_149_51 : decode (mB 149) 51 = .ok (.invokevirtual 221, 3) := by decide +kernel
theorem dd_149_54 : decode (mB 149) 54 = .ok (.aload_n 0, 1) := by decide +kernel
theorem dd_149_55 : decode (mB 149) 55 = .ok (.iload_n 2, 1) := by decide +kernel
theorem dd_149_56 : decode (mB 149) 56 = .ok (.invokevirtual 221, 3) := by decide +kernel
theorem dd_149_59 : decode (mB 149) 59 = .ok (.if_icmp .ge 7, 3) := by decide +kernel
theorem dd_149_62 : decode (mB 149) 62 = .ok (.iconst 1, 1) := by decide +kernel
theorem dd_149_63 : decode (mB 149) 63 = .ok (.goto 4, 3) := by decide +kernel
theorem dd_149_66 : decode (mB 149) 66 = .ok (.iconst 0, 1) := by decide +kernel
theorem dd_149_67 : decode (mB 149) 67 = .ok (.ireturn, 1) := by decide +kernel
theorem dd_149_68 : decode (mB 149) 68 = .ok (.aload_n 0, 1) := by decide +kernel
theorem dd_149_69 : decode (mB 149) 69 = .ok (.getfield 40, 3) := by decide +kernel
theorem dd_149_72 : decode (mB 149) 72 = .ok (.iload_n 1, 1) := by decide +kernel
theorem dd_149_73 : decode (mB 149) 73 = .ok (.iaload, 1) := by decide +kernel
theorem dd_149_74 : decode (mB 149) 74 = .ok (.aload_n 0, 1) := by decide +kernel
theorem dd_149_75 : decode (mB 149) 75 = .ok (.getfield 40, 3) := by decide +kernel
theorem dd_149_78 : decode (mB 149) 78 = .ok (.iload_n 2, 1) := by decide +kernel
theorem dd_149_79 : decode (mB 149) 79 = .ok (.iaload, 1) := by decide +kernel
theorem dd_149_80 : decode (mB 149) 80 = .ok (.if_icmp .eq 26, 3) := by decide +kernel
theorem dd_149_83 : decode (mB 149) 83 = .ok (.aload_n 0, 1) := by decide +kernel
theorem dd_149_84 : decode (mB 149) 84 = .ok (.getfield 40, 3) := by decide +kernel
theorem dd_149_87 : decode (mB 149) 87 = .ok (.iload_n 1, 1) := by decide +kernel
theorem dd_149_88 : decode (mB 149) 88 = .ok (.iaload, 1) := by decide +kernel
theorem dd_149_89 : decode (mB 149) 89 = .ok (.aload_n 0, 1) := by decide +kernel
theorem dd_149_90 : decode (mB 149) 90 = .ok (.getfield 40, 3) := by decide +kernel
theorem dd_149_93 : decode (mB 149) 93 = .ok (.iload_n 2, 1) := by decide +kernel
theorem dd_149_94 : decode (mB 149) 94 = .ok (.iaload, 1) := by decide +kernel
theorem dd_149_95 : decode (mB 149) 95 = .ok (.if_icmp .ge 7, 3) := by decide +kernel
theorem dd_149_98 : decode (mB 149) 98 = .ok (.iconst 1, 1) := by decide +kernel
theorem dd_149_99 : decode (mB 149) 99 = .ok (.goto 27, 3) := by decide +kernel
theorem dd_149_102 : decode (mB 149) 102 = .ok (.iconst 0, 1) := by decide +kernel
theorem dd_149_103 : decode (mB 149) 103 = .ok (.goto 23, 3) := by decide +kernel
theorem dd_149_106 : decode (mB 149) 106 = .ok (.aload_n 0, 1) := by decide +kernel
theorem dd_149_107 : decode (mB 149) 107 = .ok (.getfield 37, 3) := by decide +kernel
theorem dd_149_110 : decode (mB 149) 110 = .ok (.iload_n 1, 1) := by decide +kernel
theorem dd_149_111 : decode (mB 149) 111 = .ok (.iaload, 1) := by decide +kernel
theorem dd_149_112 : decode (mB 149) 112 = .ok (.aload_n 0, 1) := by decide +kernel
theorem dd_149_113 : decode (mB 149) 113 = .ok (.getfield 37, 3) := by decide +kernel
theorem dd_149_116 : decode (mB 149) 116 = .ok (.iload_n 2, 1) := by decide +kernel
theorem dd_149_117 : decode (mB 149) 117 = .ok (.iaload, 1) := by decide +kernel
theorem dd_149_118 : decode (mB 149) 118 = .ok (.if_icmp .ge 7, 3) := by decide +kernel
theorem dd_149_121 : decode (mB 149) 121 = .ok (.iconst 1, 1) := by decide +kernel
theorem dd_149_122 : decode (mB 149) 122 = .ok (.goto 4, 3) := by decide +kernel
theorem dd_149_125 : decode (mB 149) 125 = .ok (.iconst 0, 1) := by decide +kernel
theorem dd_149_126 : decode (mB 149) 126 = .ok (.ireturn, 1) := by decide +kernel
theorem dd_150_0 : decode (mB 150) 0 = .ok (.aload_n 0, 1) := by decide +kernel
theorem dd_150_1 : decode (mB 150) 1 = .ok (.getfield 37, 3) := by decide +kernel
theorem dd_150_4 : decode (mB 150) 4 = .ok (.iload_n 1, 1) := by decide +kernel
theorem dd_150_5 : decode (mB 150) 5 = .ok (.iaload, 1) := by decide +kernel
theorem dd_150_6 : decode (mB 150) 6 = .ok (.bipush 32, 2) := by decide +kernel
theorem dd_150_8 : decode (mB 150) 8 = .ok (.if_icmp .ge 7, 3) := by decide +kernel
theorem dd_150_11 : decode (mB 150) 11 = .ok (.iconst 1, 1) := by decide +kernel
theorem dd_150_12 : decode (mB 150) 12 = .ok (.goto 20, 3) := by decide +kernel
theorem dd_150_15 : decode (mB 150) 15 = .ok (.aload_n 0, 1) := by decide +kernel
theorem dd_150_16 : decode (mB 150) 16 = .ok (.getfield 37, 3) := by decide +kernel
theorem dd_150_19 : decode (mB 150) 19 = .ok (.iload_n 1, 1) := by decide +kernel
theorem dd_150_20 : decode (mB 150) 20 = .ok (.iaload, 1) := by decide +kernel
theorem dd_150_21 : decode (mB 150) 21 = .ok (.sipush 1024, 3) := by decide +kernel
theorem dd_150_24 : decode (mB 150) 24 = .ok (.if_icmp .ge 7, 3) := by decide +kernel
theorem dd_150_27 : decode (mB 150) 27 = .ok (.iconst 2, 1) := by decide +kernel
theorem dd_150_28 : decode (mB 150) 28 = .ok (.goto 4, 3) := by decide +kernel
theorem dd_150_31 : decode (mB 150) 31 = .ok (.iconst 3, 1) := by decide +kernel
theorem dd_150_32 : decode (mB 150) 32 = .ok (.ireturn, 1) := by decide +kernel
theorem dd_151_0 : decode (mB 151) 0 = .ok (.aload_n 0, 1) := by decide +kernel
theorem dd_151_1 : decode (mB 151) 1 = .ok (.getfield 34, 3) := by decide +kernel
theorem dd_151_4 : decode (mB 151) 4 = .ok (.iload_n 1, 1) := by decide +kernel
theorem dd_151_5 : decode (mB 151) 5 = .ok (.iaload, 1) := by decide +kernel
theorem dd_151_6 : decode (mB 151) 6 = .ok (.istore_n 3, 1) := by decide +kernel
theorem dd_151_7 : decode (mB 151) 7 = .ok (.aload_n 0, 1) := by decide +kernel
theorem dd_151_8 : decode (mB 151) 8 = .ok (.getfield 37, 3) := by decide +kernel
theorem dd_151_11 : decode (mB 151) 11 = .ok (.iload_n 1, 1) := by decide +kernel
theorem dd_151_12 : decode (mB 151) 12 = .ok (.iaload, 1) := by decide +kernel
theorem dd_151_13 : decode (mB 151) 13 = .ok (.istore 4, 2) := by decide +kernel
theorem dd_151_15 : decode (mB 151) 15 = .ok (.aload_n 0, 1) := by decide +kernel
theorem dd_151_16 : decode (mB 151) 16 = .ok (.getfield 40, 3) := by decide +kernel
theorem dd_151_19 : decode (mB 151) 19 = .ok (.iload_n 1, 1) := by decide +kernel
theorem dd_151_20 : decode (mB 151) 20 = .ok (.iaload, 1) := by decide +kernel
theorem dd_151_21 : decode (mB 151) 21 = .ok (.istore 5, 2) := by decide +kernel
theorem dd_151_23 : decode (mB 151) 23 = .ok (.aload_n 0, 1) := by decide +kernel
theorem dd_151_24 : decode (mB 151) 24 = .ok (.getfield 34, 3) := by decide +kernel
theorem dd_151_27 : decode (mB 151) 27 = .ok (.iload_n 1, 1) := by decide +kernel
theorem dd_151_28 : decode (mB 151) 28 = .ok (.aload_n 0, 1) := by decide +kernel
theorem dd_151_29 : decode (mB 151) 29 = .ok (.getfield 34, 3) := by decide +kernel
theorem dd_151_32 : decode (mB 151) 32 = .ok (.iload_n 2, 1) := by decide +kernel
theorem dd_151_33 : decode (mB 151) 33 = .ok (.iaload, 1) := by decide +kernel
theorem dd_151_34 : decode (mB 151) 34 = .ok (.iastore, 1) := by decide +kernel
theorem dd_151_35 : decode (mB 151) 35 = .ok (.aload_n 0, 1) := by decide +kernel
theorem dd_151_36 : decode (mB 151) 36 = .ok (.getfield 37, 3) := by decide +kernel
theorem dd_151_39 : decode (mB 151) 39 = .ok (.iload_n 1, 1) := by decide +kernel
theorem dd_151_40 : decode (mB 151) 40 = .ok (.aload_n 0, 1) := by decide +kernel
theorem dd_151_41 : decode (mB 151) 41 = .ok (.getfield 37, 3) := by decide +kernel
theorem dd_151_44 : decode (mB 151) 44 = .ok (.iload_n 2, 1) := by decide +kernel
theorem dd_151_45 : decode (mB 151) 45 = .ok (.iaload, 1) := by decide +kernel
theorem dd_151_46 : decode (mB 151) 46 = .ok (.iastore, 1) := by decide +kernel
theorem dd_151_47 : decode (mB 151) 47 = .ok (.aload_n 0, 1) := by decide +kernel
theorem dd_151_48 : decode (mB 151) 48 = .ok (.getfield 40, 3) := by decide +kernel
theorem dd_151_51 : decode (mB 151) 51 = .ok (.iload_n 1, 1) := by decide +kernel
theorem dd_151_52 : decode (mB 151) 52 = .ok (.aload_n 0, 1) := by decide +kernel
theorem dd_151_53 : decode (mB 151) 53 = .ok (.getfield 40, 3) := by decide +kernel
theorem dd_151_56 : decode (mB 151) 56 = .ok (.iload_n 2, 1) := by decide +kernel
theorem dd_151_57 : decode (mB 151) 57 = .ok (.iaload, 1) := by decide +kernel
theorem dd_151_58 : decode (mB 151) 58 = .ok (.iastore, 1) := by decide +kernel
theorem dd_151_59 : decode (mB 151) 59 = .ok (.aload_n 0, 1) := by decide +kernel
theorem dd_151_60 : decode (mB 151) 60 = .ok (.getfield 34, 3) := by decide +kernel
theorem dd_151_63 : decode (mB 151) 63 = .ok (.iload_n 2, 1) := by decide +kernel
theorem dd_151_64 : decode (mB 151) 64 = .ok (.iload_n 3, 1) := by decide +kernel
theorem dd_151_65 : decode (mB 151) 65 = .ok (.iastore, 1) := by decide +kernel
theorem dd_151_66 : decode (mB 151) 66 = .ok (.aload_n 0, 1) := by decide +kernel
theorem dd_151_67 : decode (mB 151) 67 = .ok (.getfield 37, 3) := by decide +kernel
theorem dd_151_70 : decode (mB 151) 70 = .ok (.iload_n 2, 1) := by decide +kernel
theorem dd_151_71 : decode (mB 151) 71 = .ok (.iload 4, 2) := by decide +kernel
theorem dd_151_73 : decode (mB 151) 73 = .ok (.iastore, 1) := by decide +kernel
theorem dd_151_74 : decode (mB 151) 74 = .ok (.aload_n 0, 1) := by decide +kernel
theorem dd_151_75 : decode (mB 151) 75 = .ok (.getfield 40, 3) := by decide +kernel
theorem dd_151_78 : decode (mB 151) 78 = .ok (.iload_n 2, 1) := by decide +kernel
theorem dd_151_79 : decode (mB 151) 79 = .ok (.iload 5, 2) := by decide +kernel
theorem dd_151_81 : decode (mB 151) 81 = .ok (.iastore, 1) := by decide +kernel
theorem dd_151_82 : decode (mB 151) 82 = .ok (.return_, 1) := by decide +kernel
theorem dd_152_0 : decode (mB 152) 0 = .ok (.aload_n 0, 1) := by decide +kernel
theorem dd_152_1 : decode (mB 152) 1 = .ok (.getfield 43, 3) := by decide +kernel
theorem dd_152_4 : decode (mB 152) 4 = .ok (.bipush 8, 2) := by decide +kernel
theorem dd_152_6 : decode (mB 152) 6 = .ok (.iload_n 1, 1) := by decide +kernel
theorem dd_152_7 : decode (mB 152) 7 = .ok (.imul, 1) := by decide +kernel
theorem dd_152_8 : decode (mB 152) 8 = .ok (.iload_n 2, 1) := by decide +kernel
theorem dd_152_9 : decode (mB 152) 9 = .ok (.iadd, 1) := by decide +kernel
theorem dd_152_10 : decode (mB 152) 10 = .ok (.iaload, 1) := by decide +kernel
theorem dd_152_11 : decode (mB 152) 11 = .ok (.ireturn, 1) := by decide +kernel
theorem dd_153_0 : decode (mB 153) 0 = .ok (.aload_n 0, 1) := by decide +kernel
theorem dd_153_1 : decode (mB 153) 1 = .ok (.getfield 43, 3) := by decide +kernel
theorem dd_153_4 : decode (mB 153) 4 = .ok (.bipush 8, 2) := by decide +kernel
theorem dd_153_6 : decode (mB 153) 6 = .ok (.iload_n 1, 1) := by decide +kernel
theorem dd_153_7 : decode (mB 153) 7 = .ok (.imul, 1) := by decide +kernel
theorem dd_153_8 : decode (mB 153) 8 = .ok (.iload_n 2, 1) := by decide +kernel
theorem dd_153_9 : decode (mB 153) 9 = .ok (.iadd, 1) := by decide +kernel
theorem dd_153_10 : decode (mB 153) 10 = .ok (.iaload, 1) := by decide +kernel
theorem dd_153_11 : decode (mB 153) 11 = .ok (.istore 4, 2) := by decide +kernel
theorem dd_153_13 : decode (mB 153) 13 = .ok (.iload 4, 2) := by decide +kernel
theorem dd_153_15 : decode (mB 153) 15 = .ok (.aload_n 0, 1) := by decide +kernel
theorem dd_153_16 : decode (mB 153) 16 = .ok (.getfield 43, 3) := by decide +kernel
theorem dd_153_19 : decode (mB 153) 19 = .ok (.bipush 8, 2) := by decide +kernel
theorem dd_153_21 : decode (mB 153) 21 = .ok (.iload_n 1, 1) := by decide +kernel
theorem dd_153_22 : decode (mB 153) 22 = .ok (.imul, 1) := by decide +kernel
theorem dd_153_23 : decode (mB 153) 23 = .ok (.iload_n 2, 1) := by decide +kernel
theorem dd_153_24 : decode (mB 153) 24 = .ok (.iadd, 1) := by decide +kernel
theorem dd_153_25 : decode (mB 153) 25 = .ok (.iconst 1, 1) := by decide +kernel
theorem dd_153_26 : decode (mB 153) 26 = .ok (.iadd, 1) := by decide +kernel
theorem dd_153_27 : decode (mB 153) 27 = .ok (.iaload, 1) := by decide +kernel
theorem dd_153_28 : decode (mB 153) 28 = .ok (.if_icmp .ge 19, 3) := by decide +kernel
theorem dd_153_31 : decode (mB 153) 31 = .ok (.aload_n 0, 1) := by decide +kernel
theorem dd_153_32 : decode (mB 153) 32 = .ok (.iload 4, 2) := by decide +kernel
theorem dd_153_34 : decode (mB 153) 34 = .ok (.invokevirtual 221, 3) := by decide +kernel
theorem dd_153_37 : decode (mB 153) 37 = .ok (.iload_n 3, 1) := by decide +kernel
theorem dd_153_38 : decode (mB 153) 38 = .ok (.if_icmp .gt 9, 3) := by decide +kernel
theorem dd_153_41 : decode (mB 153) 41 = .ok (.iinc 4 1, 3) := by decide +kernel
theorem dd_153_44 : decode (mB 153) 44 = .ok (.goto (-31), 3) := by decide +kernel
theorem dd_153_47 : decode (mB 153) 47 = .ok (.iload 4, 2) := by decide +kernel
theorem dd_153_49 : decode (mB 153) 49 = .ok (.ireturn, 1) := by decide +kernel
theorem dd_154_0 : decode (mB 154) 0 = .ok (.aload_n 0, 1) := by decide +kernel
theorem dd_154_1 : decode (mB 154) 1 = .ok (.iload_n 1, 1) := by decide +kernel
theorem dd_154_2 : decode (mB 154) 2 = .ok (.invokevirtual 221, 3) := by decide +kernel
theorem dd_154_5 : decode (mB 154) 5 = .ok (.istore_n 3, 1) := by decide +kernel
theorem dd_154_6 : decode (mB 154) 6 = .ok (.aload_n 0, 1) := by decide +kernel
theorem dd_154_7 : decode (mB 154) 7 = .ok (.getfield 37, 3) := by decide +kernel
theorem dd_154_10 : decode (mB 154) 10 = .ok (.iload_n 1, 1) := by decide +kernel
theorem dd_154_11 : decode (mB 154) 11 = .ok (.iaload, 1) := by decide +kernel
theorem dd_154_12 : decode (mB 154) 12 = .ok (.istore 4, 2) := by decide +kernel
theorem dd_154_14 : decode (mB 154) 14 = .ok (.iload_n 3, 1) := by decide +kernel
theorem dd_154_15 : decode (mB 154) 15 = .ok (.iconst 1, 1) := by decide +kernel
theorem dd_154_16 : decode (mB 154) 16 = .ok (.isub, 1) := by decide +kernel
theorem dd_154_17 : decode (mB 154) 17 = .ok (.istore 5, 2) := by decide +kernel
theorem dd_154_19 : decode (mB 154) 19 = .ok (.iload 5, 2) := by decide +kernel
theorem dd_154_21 : decode (mB 154) 21 = .ok (.iload_n 2, 1) := by decide +kernel
theorem dd_154_22 : decode (mB 154) 22 = .ok (.if_icmp .le 16, 3) := by decide +kernel
theorem dd_154_25 : decode (mB 154) 25 = .ok (.iload 4, 2) := by decide +kernel
theorem dd_154_27 : decode (mB 154) 27 = .ok (.bipush 32, 2) := by decide +kernel
theorem dd_154_29 : decode (mB 154) 29 = .ok (.idiv, 1) := by decide +kernel
theorem dd_154_30 : decode (mB 154) 30 = .ok (.istore 4, 2) := by decide +kernel
theorem dd_154_32 : decode (mB 154) 32 = .ok (.iinc 5 (-1), 3) := by decide +kernel
theorem dd_154_35 : decode (mB 154) 35 = .ok (.goto (-16), 3) := by decide +kernel
theorem dd_154_38 : decode (mB 154) 38 = .ok (.iload 4, 2) := by decide +kernel
theorem dd_154_40 : decode (mB 154) 40 = .ok (.bipush 32, 2) := by decide +kernel
theorem dd_154_42 : decode (mB 154) 42 = .ok (.irem, 1) := by decide +kernel
theorem dd_154_43 : decode (mB 154) 43 = .ok (.iconst 1, 1) := by decide +kernel
theorem dd_154_44 : decode (mB 154) 44 = .ok (.isub, 1) := by decide +kernel
theorem dd_154_45 : decode (mB 154) 45 = .ok (.ireturn, 1) := by decide +kernel
theorem dd_155_0 : decode (mB 155) 0 = .ok (.iload_n 1, 1) := by decide +kernel
theorem dd_155_1 : decode (mB 155) 1 = .ok (.i2l, 1) := by decide +kernel
theorem dd_155_2 : decode (mB 155) 2 = .ok (.lconst 1, 1) := by decide +kernel
theorem dd_155_3 : decode (mB 155) 3 = .ok (.ldc2_w 269, 3) := by decide +kernel
theorem dd_155_6 : decode (mB 155) 6 = .ok (.invokestatic 183, 3) := by decide +kernel
theorem dd_155_9 : decode (mB 155) 9 = .ok (.ifCond .ne 6, 3) := by decide +kernel
theorem dd_155_12 : decode (mB 155) 12 = .ok (.ldc 200, 2) := by decide +kernel
theorem dd_155_14 : decode (mB 155) 14 = .ok (.ireturn, 1) := by decide +kernel
theorem dd_155_15 : decode (mB 155) 15 = .ok (.aload_n 0, 1) := by decide +kernel
theorem dd_155_16 : decode (mB 155) 16 = .ok (.getfield 271, 3) := by decide +kernel
theorem dd_155_19 : decode (mB 155) 19 = .ok (.iload_n 1, 1) := by decide +kernel
theorem dd_155_20 : decode (mB 155) 20 = .ok (.iadd, 1) := by decide +kernel
theorem dd_155_21 : decode (mB 155) 21 = .ok (.sipush 160, 3) := by decide +kernel
theorem dd_155_24 : decode (mB 155) 24 = .ok (.if_icmp .le 6, 3) := by decide +kernel
theorem dd_155_27 : decode (mB 155) 27 = .ok (.ldc 201, 2) := by decide +kernel
theorem dd_155_29 : decode (mB 155) 29 = .ok (.ireturn, 1) := by decide +kernel
theorem dd_155_30 : decode (mB 155) 30 = .ok (.iload_n 1, 1) := by decide +kernel
theorem dd_155_31 : decode (mB 155) 31 = .ok (.iconst 1, 1) := by decide +kernel
theorem dd_155_32 : decode (mB 155) 32 = .ok (.isub, 1) := by decide +kernel
theorem dd_155_33 : decode (mB 155) 33 = .ok (.istore 4, 2) := by decide +kernel
theorem dd_155_35 : decode (mB 155) 35 = .ok (.iload 4, 2) := by decide +kernel
theorem dd_155_37 : decode (mB 155) 37 = .ok (.ifCond .lt 40, 3) := by decide +kernel
theorem dd_155_40 : decode (mB 155) 40 = .ok (.aload_n 0, 1) := by decide +kernel
theorem dd_155_41 : decode (mB 155) 41 = .ok (.getfield 64, 3) := by decide +kernel
theorem dd_155_44 : decode (mB 155) 44 = .ok (.aload_n 0, 1) := by decide +kernel
theorem dd_155_45 : decode (mB 155) 45 = .ok (.getfield 271, 3) := by decide +kernel
theorem dd_155_48 : decode (mB 155) 48 = .ok (.lload_n 2, 1) := by decide +kernel
theorem dd_155_49 : decode (mB 155) 49 = .ok (.bipush 8, 2) := by decide +kernel
theorem dd_155_51 : decode (mB 155) 51 = .ok (.iload 4, 2) := by decide +kernel
theorem dd_155_53 : decode (mB 155) 53 = .ok (.imul, 1) := by decide +kernel
theorem dd_155_54 : decode (mB 155) 54 = .ok (.lshr, 1) := by decide +kernel
theorem dd_155_55 : decode (mB 155) 55 = .ok (.ldc2_w 274, 3) := by decide +kernel
theorem dd_155_58 : decode (mB 155) 58 = .ok (.land, 1) := by decide +kernel
theorem dd_155_59 : decode (mB 155) 59 = .ok (.l2i, 1) := by decide +kernel
theorem dd_155_60 : decode (mB 155) 60 = .ok (.iastore, 1) := by decide +kernel
theorem dd_155_61 : decode (mB 155) 61 = .ok (.aload_n 0, 1) := by decide +kernel
theorem dd_155_62 : decode (mB 155) 62 = .ok (.dup, 1) := by decide +kernel
theorem dd_155_63 : decode (mB 155) 63 = .ok (.getfield 271, 3) := by decide +kernel
theorem dd_155_66 : decode (mB 155) 66 = .ok (.iconst 1, 1) := by decide +kernel
theorem dd_155_67 : decode (mB 155) 67 = .ok (.iadd, 1) := by decide +kernel
theorem dd_155_68 : decode (mB 155) 68 = .ok (.putfield 271, 3) := by decide +kernel
theorem dd_155_71 : decode (mB 155) 71 = .ok (.iinc 4 (-1), 3) := by decide +kernel
theorem dd_155_74 : decode (mB 155) 74 = .ok (.goto (-39), 3) := by decide +kernel
theorem dd_155_77 : decode (mB 155) 77 = .ok (.aload_n 0, 1) := by decide +kernel
theorem dd_155_78 : decode (mB 155) 78 = .ok (.getfield 271, 3) := by decide +kernel
theorem dd_155_81 : decode (mB 155) 81 = .ok (.ireturn, 1) := by decide +kernel
theorem dd_156_0 : decode (mB 156) 0 = .ok (.iload_n 1, 1) := by decide +kernel
theorem dd_156_1 : decode (mB 156) 1 = .ok (.invokestatic 213, 3) := by decide +kernel
theorem dd_156_4 : decode (mB 156) 4 = .ok (.ifCond .ne 6, 3) := by decide +kernel
theorem dd_156_7 : decode (mB 156) 7 = .ok (.ldc 200, 2) := by decide +kernel
theorem dd_156_9 : decode (mB 156) 9 = .ok (.ireturn, 1) := by decide +kernel
theorem dd_156_10 : decode (mB 156) 10 = .ok (.aload_n 0, 1) := by decide +kernel
theorem dd_156_11 : decode (mB 156) 11 = .ok (.getfield 331, 3) := by decide +kernel
theorem dd_156_14 : decode (mB 156) 14 = .ok (.bipush 6, 2) := by decide +kernel
theorem dd_156_16 : decode (mB 156) 16 = .ok (.if_icmp .ne 6, 3) := by decide +kernel
theorem dd_156_19 : decode (mB 156) 19 = .ok (.ldc 201, 2) := by decide +kernel
theorem dd_156_21 : decode (mB 156) 21 = .ok (.ireturn, 1) := by decide +kernel
theorem dd_156_22 : decode (mB 156) 22 = .ok (.aload_n 0, 1) := by decide +kernel
theorem dd_156_23 : decode (mB 156) 23 = .ok (.iconst 0, 1) := by decide +kernel
theorem dd_156_24 : decode (mB 156) 24 = .ok (.putfield 276, 3) := by decide +kernel
theorem dd_156_27 : decode (mB 156) 27 = .ok (.aload_n 0, 1) := by decide +kernel
theorem dd_156_28 : decode (mB 156) 28 = .ok (.iconst 0, 1) := by decide +kernel
theorem dd_156_29 : decode (mB 156) 29 = .ok (.putfield 279, 3) := by decide +kernel
theorem dd_156_32 : decode (mB 156) 32 = .ok (.aload_n 0, 1) := by decide +kernel
theorem dd_156_33 : decode (mB 156) 33 = .ok (.iconst (-1), 1) := by decide +kernel
theorem dd_156_34 : decode (mB 156) 34 = .ok (.putfield 67, 3) := by decide +kernel
theorem dd_156_37 : decode (mB 156) 37 = .ok (.iconst 0, 1) := by decide +kernel
theorem dd_156_38 : decode (mB 156) 38 = .ok (.istore_n 2, 1) := by decide +kernel
theorem dd_156_39 : decode (mB 156) 39 = .ok (.aload_n 0, 1) := by decide +kernel
theorem dd_156_40 : decode (mB 156) 40 = .ok (.getfield 279, 3) := by decide +kernel
theorem dd_156_43 : decode (mB 156) 43 = .ok (.ifCond .ne 83, 3) := by decide +kernel
theorem dd_156_46 : decode (mB 156) 46 = .ok (.aload_n 0, 1) := by decide +kernel
theorem dd_156_47 : decode (mB 156) 47 = .ok (.invokevirtual 282, 3) := by decide +kernel
theorem dd_156_50 : decode (mB 156) 50 = .ok (.ifCond .lt 76, 3) := by decide +kernel
theorem dd_156_53 : decode (mB 156) 53 = .ok (.aload_n 0, 1) := by decide +kernel
theorem dd_156_54 : decode (mB 156) 54 = .ok (.invokevirtual 308, 3) := by decide +kernel
theorem dd_156_57 : decode (mB 156) 57 = .ok (.aload_n 0, 1) := by decide +kernel
theorem dd_156_58 : decode (mB 156) 58 = .ok (.invokevirtual 334, 3) := by decide +kernel
theorem dd_156_61 : decode (mB 156) 61 = .ok (.istore_n 3, 1) := by decide +kernel
theorem dd_156_62 : decode (mB 156) 62 = .ok (.aload_n 0, 1) := by decide +kernel
theorem dd_156_63 : decode (mB 156) 63 = .ok (.iload_n 3, 1) := by decide +kernel
theorem dd_156_64 : decode (mB 156) 64 = .ok (.ifCond .lt 7, 3) := by decide +kernel
theorem dd_156_67 : decode (mB 156) 67 = .ok (.iconst 1, 1) := by decide +kernel
theorem dd_156_68 : decode (mB 156) 68 = .ok (.goto 4, 3) := by decide +kernel
theorem dd_156_71 : decode (mB 156) 71 = .ok (.iconst 0, 1) := by decide +kernel
theorem dd_156_72 : decode (mB 156) 72 = .ok (.iconst 1, 1) := by decide +kernel
theorem dd_156_73 : decode (mB 156) 73 = .ok (.aload_n 0, 1) := by decide +kernel
theorem dd_156_74 : decode (mB 156) 74 = .ok (.getfield 286, 3) := by decide +kernel
theorem dd_156_77 : decode (mB 156) 77 = .ok (.invokevirtual 300, 3) := by decide +kernel
theorem dd_156_80 : decode (mB 156) 80 = .ok (.ifCond .eq 43, 3) := by decide +kernel
theorem dd_156_83 : decode (mB 156) 83 = .ok (.aload_n 0, 1) := by decide +kernel
theorem dd_156_84 : decode (mB 156) 84 = .ok (.iload_n 2, 1) := by decide +kernel
theorem dd_156_85 : decode (mB 156) 85 = .ok (.bipush 10, 2) := by decide +kernel
theorem dd_156_87 : decode (mB 156) 87 = .ok (.if_icmp .ge 7, 3) := by decide +kernel
theorem dd_156_90 : decode (mB 156) 90 = .ok (.iconst 1, 1) := by decide +kernel
theorem dd_156_91 : decode (mB 156) 91 = .ok (.goto 4, 3) := by decide +kernel
theorem dd_156_94 : decode (mB 156) 94 = .ok (.iconst 0, 1) := by decide +kernel
theorem dd_156_95 : decode (mB 156) 95 = .ok (.iconst 5, 1) := by decide +kernel
theorem dd_156_96 : decode (mB 156) 96 = .ok (.aload_n 0, 1) := by decide +kernel
theorem dd_156_97 : decode (mB 156) 97 = .ok (.getfield 286, 3) := by decide +kernel
theorem dd_156_100 : decode (mB 156) 100 = .ok (.invokevirtual 300, 3) := by decide +kernel
theorem dd_156_103 : decode (mB 156) 103 = .ok (.ifCond .eq 20, 3) := by decide +kernel
theorem dd_156_106 : decode (mB 156) 106 = .ok (.aload_n 0, 1) := by decide +kernel
theorem dd_156_107 : decode (mB 156) 107 = .ok (.iload_n 3, 1) := by decide +kernel
theorem dd_156_108 : decode (mB 156) 108 = .ok (.bipush 10, 2) := by decide +kernel
theorem dd_156_110 : decode (mB 156) 110 = .ok (.aload_n 0, 1) := by decide +kernel
theorem dd_156_111 : decode (mB 156) 111 = .ok (.getfield 331, 3) := by decide +kernel
theorem dd_156_114 : decode (mB 156) 114 = .ok (.imul, 1) := by decide +kernel
theorem dd_156_115 : decode (mB 156) 115 = .ok (.iload_n 2, 1) := by decide +kernel
theorem dd_156_116 : decode (mB 156) 116 = .ok (.iadd, 1) := by decide +kernel
theorem dd_156_117 : decode (mB 156) 117 = .ok (.invokevirtual 337, 3) := by decide +kernel
theorem dd_156_120 : decode (mB 156) 120 = .ok (.iinc 2 1, 3) := by decide +kernel
theorem dd_156_123 : decode (mB 156) 123 = .ok (.goto (-84), 3) := by decide +kernel
theorem dd_156_126 : decode (mB 156) 126 = .ok (.aload_n 0, 1) := by decide +kernel
theorem dd_156_127 : decode (mB 156) 127 = .ok (.iconst 0, 1) := by decide +kernel
theorem dd_156_128 : decode (mB 156) 128 = .ok (.putfield 271, 3) := by decide +kernel
theorem dd_156_131 : decode (mB 156) 131 = .ok (.aload_n 0, 1) := by decide +kernel
theorem dd_156_132 : decode (mB 156) 132 = .ok (.getfield 279, 3) := by decide +kernel
theorem dd_156_135 : decode (mB 156) 135 = .ok (.ifCond .le 11, 3) := by decide +kernel
theorem dd_156_138 : decode (mB 156) 138 = .ok (.bipush (-10), 2) := by decide +kernel
theorem dd_156_140 : decode (mB 156) 140 = .ok (.aload_n 0, 1) := by decide +kernel
theorem dd_156_141 : decode (mB 156) 141 = .ok (.getfield 279, 3) := by decide +kernel
theorem dd_156_144 : decode (mB 156) 144 = .ok (.isub, 1) := by decide +kernel
theorem dd_156_145 : decode (mB 156) 145 = .ok (.ireturn, 1) := by decide +kernel
theorem dd_156_146 : decode (mB 156) 146 = .ok (.aload_n 0, 1) := by decide +kernel
theorem dd_156_147 : decode (mB 156) 147 = .ok (.getfield 49, 3) := by decide +kernel
theorem dd_156_150 : decode (mB 156) 150 = .ok (.aload_n 0, 1) := by decide +kernel
theorem dd_156_151 : decode (mB 156) 151 = .ok (.getfield 331, 3) := by decide +kernel
theorem dd_156_154 : decode (mB 156) 154 = .ok (.iload_n 2, 1) := by decide +kernel
theorem dd_156_155 : decode (mB 156) 155 = .ok (.iastore, 1) := by decide +kernel
theorem dd_156_156 : decode (mB 156) 156 = .ok (.aload_n 0, 1) := by decide +kernel
theorem dd_156_157 : decode (mB 156) 157 = .ok (.getfield 46, 3) := by decide +kernel
theorem dd_156_160 : decode (mB 156) 160 = .ok (.aload_n 0, 1) := by decide +kernel
theorem dd_156_161 : decode (mB 156) 161 = .ok (.getfield 331, 3) := by decide +kernel
theorem dd_156_164 : decode (mB 156) 164 = .ok (.iload_n 1, 1) := by decide +kernel
theorem dd_156_165 : decode (mB 156) 165 = .ok (.iastore, 1) := by decide +kernel
theorem dd_156_166 : decode (mB 156) 166 = .ok (.aload_n 0, 1) := by decide +kernel
theorem dd_156_167 : decode (mB 156) 167 = .ok (.dup, 1) := by decide +kernel
theorem dd_156_168 : decode (mB 156) 168 = .ok (.getfield 331, 3) := by decide +kernel
theorem dd_156_171 : decode (mB 156) 171 = .ok (.iconst 1, 1) := by decide +kernel
theorem dd_156_172 : decode (mB 156) 172 = .ok (.iadd, 1) := by decide +kernel
theorem dd_156_173 : decode (mB 156) 173 = .ok (.putfield 331, 3) := by decide +kernel
theorem dd_156_176 : decode (mB 156) 176 = .ok (.aload_n 0, 1) := by decide +kernel
theorem dd_156_177 : decode (mB 156) 177 = .ok (.getfield 331, 3) := by decide +kernel
theorem dd_156_180 : decode (mB 156) 180 = .ok (.iconst 1, 1) := by decide +kernel
theorem dd_156_181 : decode (mB 156) 181 = .ok (.isub, 1) := by decide +kernel
theorem dd_156_182 : decode (mB 156) 182 = .ok (.ireturn, 1) := by decide +kernel
theorem dd_157_0 : decode (mB 157) 0 = .ok (.aload_n 0, 1) := by decide +kernel
theorem dd_157_1 : decode (mB 157) 1 = .ok (.getfield 276, 3) := by decide +kernel
theorem dd_157_4 : decode (mB 157) 4 = .ok (.aload_n 0, 1) := by decide +kernel
theorem dd_157_5 : decode (mB 157) 5 = .ok (.getfield 271, 3) := by decide +kernel
theorem dd_157_8 : decode (mB 157) 8 = .ok (.if_icmp .ge 30, 3) := by decide +kernel
theorem dd_157_11 : decode (mB 157) 11 = .ok (.aload_n 0, 1) := by decide +kernel
theorem dd_157_12 : decode (mB 157) 12 = .ok (.getfield 64, 3) := by decide +kernel
theorem dd_157_15 : decode (mB 157) 15 = .ok (.aload_n 0, 1) := by decide +kernel
theorem dd_157_16 : decode (mB 157) 16 = .ok (.getfield 276, 3) := by decide +kernel
theorem dd_157_19 : decode (mB 157) 19 = .ok (.iaload, 1) := by decide +kernel
theorem dd_157_20 : decode (mB 157) 20 = .ok (.bipush 32, 2) := by decide +kernel
theorem dd_157_22 : decode (mB 157) 22 = .ok (.if_icmp .ne 16, 3) := by decide +kernel
theorem dd_157_25 : decode (mB 157) 25 = .ok (.aload_n 0, 1) := by decide +kernel
theorem dd_157_26 : decode (mB 157) 26 = .ok (.dup, 1) := by decide +kernel
theorem dd_157_27 : decode (mB 157) 27 = .ok (.getfield 276, 3) := by decide +kernel
theorem dd_157_30 : decode (mB 157) 30 = .ok (.iconst 1, 1) := by decide +kernel
theorem dd_157_31 : decode (mB 157) 31 = .ok (.iadd, 1) := by decide +kernel
theorem dd_157_32 : decode (mB 157) 32 = .ok (.putfield 276, 3) := by decide +kernel
theorem dd_157_35 : decode (mB 157) 35 = .ok (.goto (-35), 3) := by decide +kernel
theorem dd_157_38 : decode (mB 157) 38 = .ok (.aload_n 0, 1) := by decide +kernel
theorem dd_157_39 : decode (mB 157) 39 = .ok (.getfield 276, 3) := by decide +kernel
theorem dd_157_42 : decode (mB 157) 42 = .ok (.aload_n 0, 1) := by decide +kernel
theorem dd_157_43 : decode (mB 157) 43 = .ok (.getfield 271, 3) := by decide +kernel
theorem dd_157_46 : decode (mB 157) 46 = .ok (.if_icmp .ge 15, 3) := by decide +kernel
theorem dd_157_49 : decode (mB 157) 49 = .ok (.aload_n 0, 1) := by decide +kernel
theorem dd_157_50 : decode (mB 157) 50 = .ok (.getfield 64, 3) := by decide +kernel
theorem dd_157_53 : decode (mB 157) 53 = .ok (.aload_n 0, 1) := by decide +kernel
theorem dd_157_54 : decode (mB 157) 54 = .ok (.getfield 276, 3) := by decide +kernel
theorem dd_157_57 : decode (mB 157) 57 = .ok (.iaload, 1) := by decide +kernel
theorem dd_157_58 : decode (mB 157) 58 = .ok (.goto 4, 3) := by decide +kernel
theorem dd_157_61 : decode (mB 157) 61 = .ok (.iconst (-1), 1) := by decide +kernel
theorem dd_157_62 : decode (mB 157) 62 = .ok (.ireturn, 1) := by decide +kernel
theorem dd_158_0 : decode (mB 158) 0 = .ok (.aload_n 0, 1) := by decide +kernel
theorem dd_158_1 : decode (mB 158) 1 = .ok (.invokevirtual 282, 3) := by decide +kernel
theorem dd_158_4 : decode (mB 158) 4 = .ok (.istore_n 1, 1) := by decide +kernel
theorem dd_158_5 : decode (mB 158) 5 = .ok (.aload_n 0, 1) := by decide +kernel
theorem dd_158_6 : decode (mB 158) 6 = .ok (.aload_n 0, 1) := by decide +kernel
theorem dd_158_7 : decode (mB 158) 7 = .ok (.getfield 276, 3) := by decide +kernel
theorem dd_158_10 : decode (mB 158) 10 = .ok (.putfield 286, 3) := by decide +kernel
theorem dd_158_13 : decode (mB 158) 13 = .ok (.aload_n 0, 1) := by decide +kernel
theorem dd_158_14 : decode (mB 158) 14 = .ok (.getfield 276, 3) := by decide +kernel
theorem dd_158_17 : decode (mB 158) 17 = .ok (.aload_n 0, 1) := by decide +kernel
theorem dd_158_18 : decode (mB 158) 18 = .ok (.getfield 271, 3) := by decide +kernel
theorem dd_158_21 : decode (mB 158) 21 = .ok (.if_icmp .ge 38, 3) := by decide +kernel
theorem dd_158_24 : decode (mB 158) 24 = .ok (.aload_n 0, 1) := by decide +kernel
theorem dd_158_25 : decode (mB 158) 25 = .ok (.getfield 64, 3) := by decide +kernel
theorem dd_158_28 : decode (mB 158) 28 = .ok (.aload_n 0, 1) := by decide +kernel
theorem dd_158_29 : decode (mB 158) 29 = .ok (.getfield 276, 3) := by decide +kernel
theorem dd_158_32 : decode (mB 158) 32 = .ok (.iaload, 1) := by decide +kernel
theorem dd_158_33 : decode (mB 158) 33 = .ok (.i2l, 1) := by decide +kernel
theorem dd_158_34 : decode (mB 158) 34 = .ok (.ldc2_w 289, 3) := by decide +kernel
theorem dd_158_37 : decode (mB 158) 37 = .ok (.ldc2_w 291, 3) := by decide +kernel
theorem dd_158_40 : decode (mB 158) 40 = .ok (.invokestatic 183, 3) := by decide +kernel
theorem dd_158_43 : decode (mB 158) 43 = .ok (.ifCond .eq 16, 3) := by decide +kernel
theorem dd_158_46 : decode (mB 158) 46 = .ok (.aload_n 0, 1) := by decide +kernel
theorem dd_158_47 : decode (mB 158) 47 = .ok (.dup, 1) := by decide +kernel
theorem dd_158_48 : decode (mB 158) 48 = .ok (.getfield 276, 3) := by decide +kernel
theorem dd_158_51 : decode (mB 158) 51 = .ok (.iconst 1, 1) := by decide +kernel
theorem dd_158_52 : decode (mB 158) 52 = .ok (.iadd, 1) := by decide +kernel
theorem dd_158_53 : decode (mB 158) 53 = .ok (.putfield 276, 3) := by decide +kernel
theorem dd_158_56 : decode (mB 158) 56 = .ok (.goto (-43), 3) := by decide +kernel
theorem dd_158_59 : decode (mB 158) 59 = .ok (.aload_n 0, 1) := by decide +kernel
theorem dd_158_60 : decode (mB 158) 60 = .ok (.aload_n 0, 1) := by decide +kernel
theorem dd_158_61 : decode (mB 158) 61 = .ok (.getfield 276, 3) := by decide +kernel
theorem dd_158_64 : decode (mB 158) 64 = .ok (.aload_n 0, 1) := by decide +kernel
theorem dd_158_65 : decode (mB 158) 65 = .ok (.getfield 286, 3) := by decide +kernel
theorem dd_158_68 : decode (mB 158) 68 = .ok (.isub, 1) := by decide +kernel
theorem dd_158_69 : decode (mB 158) 69 = .ok (.putfield 293, 3) := by decide +kernel
theorem dd_158_72 : decode (mB 158) 72 = .ok (.return_, 1) := by decide +kernel
theorem dd_159_0 : decode (mB 159) 0 = .ok (.aload_n 0, 1) := by decide +kernel
theorem dd_159_1 : decode (mB 159) 1 = .ok (.iconst 4, 1) := by decide +kernel
theorem dd_159_2 : decode (mB 159) 2 = .ok (.bipush 110, 2) := by decide +kernel
theorem dd_159_4 : decode (mB 159) 4 = .ok (.bipush 101, 2) := by decide +kernel
theorem dd_159_6 : decode (mB 159) 6 = .ok (.bipush 120, 2) := by decide +kernel
theorem dd_159_8 : decode (mB 159) 8 = .ok (.bipush 116, 2) := by decide +kernel
theorem dd_159_10 : decode (mB 159) 10 = .ok (.iconst 0, 1) := by decide +kernel
theorem dd_159_11 : decode (mB 159) 11 = .ok (.iconst 0, 1) := by decide +kernel
theorem dd_159_12 : decode (mB 159) 12 = .ok (.invokevirtual 304, 3) := by decide +kernel
theorem dd_159_15 : decode (mB 159) 15 = .ok (.ifCond .eq 5, 3) := by decide +kernel
theorem dd_159_18 : decode (mB 159) 18 = .ok (.iconst 0, 1) := by decide +kernel
theorem dd_159_19 : decode (mB 159) 19 = .ok (.ireturn, 1) := by decide +kernel
theorem dd_159_20 : decode (mB 159) 20 = .ok (.aload_n 0, 1) := by decide +kernel
theorem dd_159_21 : decode (mB 159) 21 = .ok (.iconst 4, 1) := by decide +kernel
theorem dd_159_22 : decode (mB 159) 22 = .ok (.bipush 119, 2) := by decide +kernel
theorem dd_159_24 : decode (mB 159) 24 = .ok (.bipush 97, 2) := by decide +kernel
theorem dd_159_26 : decode (mB 159) 26 = .ok (.bipush 121, 2) := by decide +kernel
theorem dd_159_28 : decode (mB 159) 28 = .ok (.bipush 115, 2) := by decide +kernel
theorem dd_159_30 : decode (mB 159) 30 = .ok (.iconst 0, 1) := by decide +kernel
theorem dd_159_31 : decode (mB 159) 31 = .ok (.iconst 0, 1) := by decide +kernel
theorem dd_159_32 : decode (mB 159) 32 = .ok (.invokevirtual 304, 3) := by decide +kernel
theorem dd_159_35 : decode (mB 159) 35 = .ok (.ifCond .eq 5, 3) := by decide +kernel
theorem dd_159_38 : decode (mB 159) 38 = .ok (.iconst 1, 1) := by decide +kernel
theorem dd_159_39 : decode (mB 159) 39 = .ok (.ireturn, 1) := by decide +kernel
theorem dd_159_40 : decode (mB 159) 40 = .ok (.aload_n 0, 1) := by decide +kernel
theorem dd_159_41 : decode (mB 159) 41 = .ok (.iconst 4, 1) := by decide +kernel
theorem dd_159_42 : decode (mB 159) 42 = .ok (.bipush 104, 2) := by decide +kernel
theorem dd_159_44 : decode (mB 159) 44 = .ok (.bipush 111, 2) := by decide +kernel
theorem dd_159_46 : decode (mB 159) 46 = .ok (.bipush 108, 2) := by decide +kernel
theorem dd_159_48 : decode (mB 159) 48 = .ok (.bipush 100, 2) := by decide +kernel
theorem dd_159_50 : decode (mB 159) 50 = .ok (.iconst 0, 1) := by decide +kernel
theorem dd_159_51 : decode (mB 159) 51 = .ok (.iconst 0, 1) := by decide +kernel
theorem dd_159_52 : decode (mB 159) 52 = .ok (.invokevirtual 304, 3) := by decide +kernel
theorem dd_159_55 : decode (mB 159) 55 = .ok (.ifCond .eq 5, 3) := by decide +kernel
theorem dd_159_58 : decode (mB 159) 58 = .ok (.iconst 2, 1) := by decide +kernel
theorem dd_159_59 : decode (mB 159) 59 = .ok (.ireturn, 1) := by decide +kernel
theorem dd_159_60 : decode (mB 159) 60 = .ok (.aload_n 0, 1) := by decide +kernel
theorem dd_159_61 : decode (mB 159) 61 = .ok (.iconst 5, 1) := by decide +kernel
theorem dd_159_62 : decode (mB 159) 62 = .ok (.bipush 103, 2) := by decide +kernel
theorem dd_159_64 : decode (mB 159) 64 = .ok (.bipush 114, 2) := by decide +kernel
theorem dd_159_66 : decode (mB 159) 66 = .ok (.bipush 97, 2) := by decide +kernel
theorem dd_159_68 : decode (mB 159) 68 = .ok (.bipush 99, 2) := by decide +kernel
theorem dd_159_70 : decode (mB 159) 70 = .ok (.bipush 101, 2) := by decide +kernel
theorem dd_159_72 : decode (mB 159) 72 = .ok (.iconst 0, 1) := by decide +kernel
theorem dd_159_73 : decode (mB 159) 73 = .ok (.invokevirtual 304, 3) := by decide +kernel
theorem dd_159_76 : decode (mB 159) 76 = .ok (.ifCond .eq 5, 3) := by decide +kernel
theorem dd_159_79 : decode (mB 159) 79 = .ok (.iconst 3, 1) := by decide +kernel
theorem dd_159_80 : decode (mB 159) 80 = .ok (.ireturn, 1) := by decide +kernel
theorem dd_159_81 : decode (mB 159) 81 = .ok (.aload_n 0, 1) := by decide +kernel
theorem dd_159_82 : decode (mB 159) 82 = .ok (.iconst 4, 1) := by decide +kernel
theorem dd_159_83 : decode (mB 159) 83 = .ok (.bipush 116, 2) := by decide +kernel
theorem dd_159_85 : decode (mB 159) 85 = .ok (.bipush 111, 2) := by decide +kernel
theorem dd_159_87 : decode (mB 159) 87 = .ok (.bipush 108, 2) := by decide +kernel
theorem dd_159_89 : decode (mB 159) 89 = .ok (.bipush 100, 2) := by decide +kernel
theorem dd_159_91 : decode (mB 159) 91 = .ok (.iconst 0, 1) := by decide +kernel
theorem dd_159_92 : decode (mB 159) 92 = .ok (.iconst 0, 1) := by decide +kernel
theorem dd_159_93 : decode (mB 159) 93 = .ok (.invokevirtual 304, 3) := by decide +kernel
theorem dd_159_96 : decode (mB 159) 96 = .ok (.ifCond .eq 5, 3) := by decide +kernel
theorem dd_159_99 : decode (mB 159) 99 = .ok (.iconst 4, 1) := by decide +kernel
theorem dd_159_100 : decode (mB 159) 100 = .ok (.ireturn, 1) := by decide +kernel
theorem dd_159_101 : decode (mB 159) 101 = .ok (.aload_n 0, 1) := by decide +kernel
theorem dd_159_102 : decode (mB 159) 102 = .ok (.bipush 6, 2) := by decide +kernel
theorem dd_159_104 : decode (mB 159) 104 = .ok (.bipush 99, 2) := by decide +kernel
theorem dd_159_106 : decode (mB 159) 106 = .ok (.bipush 104, 2) := by decide +kernel
theorem dd_159_108 : decode (mB 159) 108 = .ok (.bipush 97, 2) := by decide +kernel
theorem dd_159_110 : decode (mB 159) 110 = .ok (.bipush 114, 2) := by decide +kernel
theorem dd_159_112 : decode (mB 159) 112 = .ok (.bipush 103, 2) := by decide +kernel
theorem dd_159_114 : decode (mB 159) 114 = .ok (.bipush 101, 2) := by decide +kernel
theorem dd_159_116 : decode (mB 159) 116 = .ok (.invokevirtual 304, 3) := by decide +kernel
theorem dd_159_119 : decode (mB 159) 119 = .ok (.ifCond .eq 5, 3) := by decide +kernel
theorem dd_159_122 : decode (mB 159) 122 = .ok (.iconst 5, 1) := by decide +kernel
theorem dd_159_123 : decode (mB 159) 123 = .ok (.ireturn, 1) := by decide +kernel
theorem dd_159_124 : decode (mB 159) 124 = .ok (.aload_n 0, 1) := by decide +kernel
theorem dd_159_125 : decode (mB 159) 125 = .ok (.iconst 5, 1) := by decide +kernel
theorem dd_159_126 : decode (mB 159) 126 = .ok (.bipush 110, 2) := by decide +kernel
theorem dd_159_128 : decode (mB 159) 128 = .ok (.bipush 105, 2) := by decide +kernel
theorem dd_159_130 : decode (mB 159) 130 = .ok (.bipush 103, 2) := by decide +kernel
theorem dd_159_132 : decode (mB 159) 132 = .ok (.bipush 104, 2) := by decide +kernel
theorem dd_159_134 : decode (mB 159) 134 = .ok (.bipush 116, 2) := by decide +kernel
theorem dd_159_136 : decode (mB 159) 136 = .ok (.iconst 0, 1) := by decide +kernel
theorem dd_159_137 : decode (mB 159) 137 = .ok (.invokevirtual 304, 3) := by decide +kernel
theorem dd_159_140 : decode (mB 159) 140 = .ok (.ifCond .eq 6, 3) := by decide +kernel
theorem dd_159_143 : decode (mB 159) 143 = .ok (.bipush 6, 2) := by decide +kernel
theorem dd_159_145 : decode (mB 159) 145 = .ok (.ireturn, 1) := by decide +kernel
theorem dd_159_146 : decode (mB 159) 146 = .ok (.aload_n 0, 1) := by decide +kernel
theorem dd_159_147 : decode (mB 159) 147 = .ok (.iconst 4, 1) := by decide +kernel
theorem dd_159_148 : decode (mB 159) 148 = .ok (.bipush 98, 2) := by decide +kernel
theorem dd_159_150 : decode (mB 159) 150 = .ok (.bipush 97, 2) := by decide +kernel
theorem dd_159_152 : decode (mB 159) 152 = .ok (.bipush 99, 2) := by decide +kernel
theorem dd_159_154 : decode (mB 159) 154 = .ok (.bipush 107, 2) := by decide +kernel
theorem dd_159_156 : decode (mB 159) 156 = .ok (.iconst 0, 1) := by decide +kernel
theorem dd_159_157 : decode (mB 159) 157 = .ok (.iconst 0, 1) := by decide +kernel
theorem dd_159_158 : decode (mB 159) 158 = .ok (.invokevirtual 304, 3) := by decide +kernel
theorem dd_159_161 : decode (mB 159) 161 = .ok (.ifCond .eq 6, 3) := by decide +kernel
theorem dd_159_164 : decode (mB 159) 164 = .ok (.bipush 7, 2) := by decide +kernel
theorem dd_159_166 : decode (mB 159) 166 = .ok (.ireturn, 1) := by decide +kernel
theorem dd_159_167 : decode (mB 159) 167 = .ok (.aload_n 0, 1) := by decide +kernel
theorem dd_159_168 : decode (mB 159) 168 = .ok (.bipush 6, 2) := by decide +kernel
theorem dd_159_170 : decode (mB 159) 170 = .ok (.bipush 115, 2) := by decide +kernel
theorem dd_159_172 : decode (mB 159) 172 = .ok (.bipush 116, 2) := by decide +kernel
theorem dd_159_174 : decode (mB 159) 174 = .ok (.bipush 114, 2) := by decide +kernel
theorem dd_159_176 : decode (mB 159) 176 = .ok (.bipush 105, 2) := by decide +kernel
theorem dd_159_178 : decode (mB 159) 178 = .ok (.bipush 107, 2) := by decide +kernel
theorem dd_159_180 : decode (mB 159) 180 = .ok (.bipush 101, 2) := by decide +kernel
theorem dd_159_182 : decode (mB 159) 182 = .ok (.invokevirtual 304, 3) := by decide +kernel
theorem dd_159_185 : decode (mB 159) 185 = .ok (.ifCond .eq 8, 3) := by decide +kernel
theorem dd_159_188 : decode (mB 159) 188 = .ok (.bipush 8, 2) := by decide +kernel
theorem dd_159_190 : decode (mB 159) 190 = .ok (.goto 4, 3) := by decide +kernel
theorem dd_159_193 : decode (mB 159) 193 = .ok (.iconst (-1), 1) := by decide +kernel
theorem dd_159_194 : decode (mB 159) 194 = .ok (.ireturn, 1) := by decide +kernel
theorem dd_160_0 : decode (mB 160) 0 = .ok (.aload_n 0, 1) := by decide +kernel
theorem dd_160_1 : decode (mB 160) 1 = .ok (.getfield 293, 3) := by decide +kernel
theorem dd_160_4 : decode (mB 160) 4 = .ok (.iload_n 1, 1) := by decide +kernel
theorem dd_160_5 : decode (mB 160) 5 = .ok (.if_icmp .ne 7, 3) := by decide +kernel
theorem dd_160_8 : decode (mB 160) 8 = .ok (.iconst 1, 1) := by decide +kernel
theorem dd_160_9 : decode (mB 160) 9 = .ok (.goto 4, 3) := by decide +kernel
theorem dd_160_12 : decode (mB 160) 12 = .ok (.iconst 0, 1) := by decide +kernel
theorem dd_160_13 : decode (mB 160) 13 = .ok (.istore 8, 2) := by decide +kernel
theorem dd_160_15 : decode (mB 160) 15 = .ok (.iconst 0, 1) := by decide +kernel
theorem dd_160_16 : decode (mB 160) 16 = .ok (.istore 9, 2) := by decide +kernel
theorem dd_160_18 : decode (mB 160) 18 = .ok (.iload 9, 2) := by decide +kernel
theorem dd_160_20 : decode (mB 160) 20 = .ok (.iload_n 1, 1) := by decide +kernel
theorem dd_160_21 : decode (mB 160) 21 = .ok (.if_icmp .ge 90, 3) := by decide +kernel
theorem dd_160_24 : decode (mB 160) 24 = .ok (.iload 8, 2) := by decide +kernel
theorem dd_160_26 : decode (mB 160) 26 = .ok (.ifCond .eq 85, 3) := by decide +kernel
theorem dd_160_29 : decode (mB 160) 29 = .ok (.aload_n 0, 1) := by decide +kernel
theorem dd_160_30 : decode (mB 160) 30 = .ok (.getfield 64, 3) := by decide +kernel
theorem dd_160_33 : decode (mB 160) 33 = .ok (.aload_n 0, 1) := by decide +kernel
theorem dd_160_34 : decode (mB 160) 34 = .ok (.getfield 286, 3) := by decide +kernel
theorem dd_160_37 : decode (mB 160) 37 = .ok (.iload 9, 2) := by decide +kernel
theorem dd_160_39 : decode (mB 160) 39 = .ok (.iadd, 1) := by decide +kernel
theorem dd_160_40 : decode (mB 160) 40 = .ok (.iaload, 1) := by decide +kernel
theorem dd_160_41 : decode (mB 160) 41 = .ok (.iload 9, 2) := by decide +kernel
theorem dd_160_43 : decode (mB 160) 43 = .ok (.ifCond .ne 7, 3) := by decide +kernel
theorem dd_160_46 : decode (mB 160) 46 = .ok (.iload_n 2, 1) := by decide +kernel
theorem dd_160_47 : decode (mB 160) 47 = .ok (.goto 48, 3) := by decide +kernel
theorem dd_160_50 : decode (mB 160) 50 = .ok (.iload 9, 2) := by decide +kernel
theorem dd_160_52 : decode (mB 160) 52 = .ok (.iconst 1, 1) := by decide +kernel
theorem dd_160_53 : decode (mB 160) 53 = .ok (.if_icmp .ne 7, 3) := by decide +kernel
theorem dd_160_56 : decode (mB 160) 56 = .ok (.iload_n 3, 1) := by decide +kernel
theorem dd_160_57 : decode (mB 160) 57 = .ok (.goto 38, 3) := by decide +kernel
theorem dd_160_60 : decode (mB 160) 60 = .ok (.iload 9, 2) := by decide +kernel
theorem dd_160_62 : decode (mB 160) 62 = .ok (.iconst 2, 1) := by decide +kernel
theorem dd_160_63 : decode (mB 160) 63 = .ok (.if_icmp .ne 8, 3) := by decide +kernel
theorem dd_160_66 : decode (mB 160) 66 = .ok (.iload 4, 2) := by decide +kernel
theorem dd_160_68 : decode (mB 160) 68 = .ok (.goto 27, 3) := by decide +kernel
theorem dd_160_71 : decode (mB 160) 71 = .ok (.iload 9, 2) := by decide +kernel
theorem dd_160_73 : decode (mB 160) 73 = .ok (.iconst 3, 1) := by decide +kernel
theorem dd_160_74 : decode (mB 160) 74 = .ok (.if_icmp .ne 8, 3) := by decide +kernel
theorem dd_160_77 : decode (mB 160) 77 = .ok (.iload 5, 2) := by decide +kernel
theorem dd_160_79 : decode (mB 160) 79 = .ok (.goto 16, 3) := by decide +kernel
theorem dd_160_82 : decode (mB 160) 82 = .ok (.iload 9, 2) := by decide +kernel
theorem dd_160_84 : decode (mB 160) 84 = .ok (.iconst 4, 1) := by decide +kernel
theorem dd_160_85 : decode (mB 160) 85 = .ok (.if_icmp .ne 8, 3) := by decide +kernel
theorem dd_160_88 : decode (mB 160) 88 = .ok (.iload 6, 2) := by decide +kernel
theorem dd_160_90 : decode (mB 160) 90 = .ok (.goto 5, 3) := by decide +kernel
theorem dd_160_93 : decode (mB 160) 93 = .ok (.iload 7, 2) := by decide +kernel
theorem dd_160_95 : decode (mB 160) 95 = .ok (.if_icmp .ne 7, 3) := by decide +kernel
theorem dd_160_98 : decode (mB 160) 98 = .ok (.iconst 1, 1) := by decide +kernel
theorem dd_160_99 : decode (mB 160) 99 = .ok (.goto 4, 3) := by decide +kernel
theorem dd_160_102 : decode (mB 160) 102 = .ok (.iconst 0, 1) := by decide +kernel
theorem dd_160_103 : decode (mB 160) 103 = .ok (.istore 8, 2) := by decide +kernel
theorem dd_160_105 : decode (mB 160) 105 = .ok (.iinc 9 1, 3) := by decide +kernel
theorem dd_160_108 : decode (mB 160) 108 = .ok (.goto (-90), 3) := by decide +kernel
theorem dd_160_111 : decode (mB 160) 111 = .ok (.iload 8, 2) := by decide +kernel
theorem dd_160_113 : decode (mB 160) 113 = .ok (.ireturn, 1) := by decide +kernel
theorem dd_161_0 : decode (mB 161) 0 = .ok (.iload_n 1, 1) := by decide +kernel
theorem dd_161_1 : decode (mB 161) 1 = .ok (.ifCond .ne 20, 3) := by decide +kernel
theorem dd_161_4 : decode (mB 161) 4 = .ok (.aload_n 0, 1) := by decide +kernel
theorem dd_161_5 : decode (mB 161) 5 = .ok (.getfield 279, 3) := by decide +kernel
theorem dd_161_8 : decode (mB 161) 8 = .ok (.ifCond .ne 13, 3) := by decide +kernel
theorem dd_161_11 : decode (mB 161) 11 = .ok (.aload_n 0, 1) := by decide +kernel
theorem dd_161_12 : decode (mB 161) 12 = .ok (.iload_n 2, 1) := by decide +kernel
theorem dd_161_13 : decode (mB 161) 13 = .ok (.putfield 279, 3) := by decide +kernel
theorem dd_161_16 : decode (mB 161) 16 = .ok (.aload_n 0, 1) := by decide +kernel
theorem dd_161_17 : decode (mB 161) 17 = .ok (.iload_n 3, 1) := by decide +kernel
theorem dd_161_18 : decode (mB 161) 18 = .ok (.putfield 67, 3) := by decide +kernel
theorem dd_161_21 : decode (mB 161) 21 = .ok (.aload_n 0, 1) := by decide +kernel
theorem dd_161_22 : decode (mB 161) 22 = .ok (.getfield 279, 3) := by decide +kernel
theorem dd_161_25 : decode (mB 161) 25 = .ok (.ifCond .ne 7, 3) := by decide +kernel
theorem dd_161_28 : decode (mB 161) 28 = .ok (.iconst 1, 1) := by decide +kernel
theorem dd_161_29 : decode (mB 161) 29 = .ok (.goto 4, 3) := by decide +kernel
theorem dd_161_32 : decode (mB 161) 32 = .ok (.iconst 0, 1) := by decide +kernel
theorem dd_161_33 : decode (mB 161) 33 = .ok (.ireturn, 1) := by decide +kernel
theorem dd_162_0 : decode (mB 162) 0 = .ok (.aload_n 0, 1) := by decide +kernel
theorem dd_162_1 : decode (mB 162) 1 = .ok (.getfield 52, 3) := by decide +kernel
theorem dd_162_4 : decode (mB 162) 4 = .ok (.iload_n 2, 1) := by decide +kernel
theorem dd_162_5 : decode (mB 162) 5 = .ok (.iload_n 1, 1) := by decide +kernel
theorem dd_162_6 : decode (mB 162) 6 = .ok (.iastore, 1) := by decide +kernel
theorem dd_162_7 : decode (mB 162) 7 = .ok (.iload_n 1, 1) := by decide +kernel
theorem dd_162_8 : decode (mB 162) 8 = .ok (.tableswitch 189 0 7 #[48, 56, 71, 71, 87, 119, 181, 103], 48) := by decide +kernel
theorem dd_162_56 : decode (mB 162) 56 = .ok (.aload_n 0, 1) := by decide +kernel
theorem dd_162_57 : decode (mB 162) 57 = .ok (.iload_n 2, 1) := by decide +kernel
theorem dd_162_58 : decode (mB 162) 58 = .ok (.invokevirtual 325, 3) := by decide +kernel
theorem dd_162_61 : decode (mB 162) 61 = .ok (.goto 178, 3) := by decide +kernel
theorem dd_162_64 : decode (mB 162) 64 = .ok (.aload_n 0, 1) := by decide +kernel
theorem dd_162_65 : decode (mB 162) 65 = .ok (.getfield 55, 3) := by decide +kernel
theorem dd_162_68 : decode (mB 162) 68 = .ok (.iload_n 2, 1) := by decide +kernel
theorem dd_162_69 : decode (mB 162) 69 = .ok (.aload_n 0, 1) := by decide +kernel
theorem dd_162_70 : decode (mB 162) 70 = .ok (.iconst 1, 1) := by decide +kernel
theorem dd_162_71 : decode (mB 162) 71 = .ok (.iconst 3, 1) := by decide +kernel
theorem dd_162_72 : decode (mB 162) 72 = .ok (.invokevirtual 318, 3) := by decide +kernel
theorem dd_162_75 : decode (mB 162) 75 = .ok (.iastore, 1) := by decide +kernel
theorem dd_162_76 : decode (mB 162) 76 = .ok (.goto 163, 3) := by decide +kernel
theorem dd_162_79 : decode (mB 162) 79 = .ok (.aload_n 0, 1) := by decide +kernel
theorem dd_162_80 : decode (mB 162) 80 = .ok (.getfield 55, 3) := by decide +kernel
theorem dd_162_83 : decode (mB 162) 83 = .ok (.iload_n 2, 1) := by decide +kernel
theorem dd_162_84 : decode (mB 162) 84 = .ok (.aload_n 0, 1) := by decide +kernel
theorem dd_162_85 : decode (mB 162) 85 = .ok (.iconst 0, 1) := by decide +kernel
theorem dd_162_86 : decode (mB 162) 86 = .ok (.bipush 60, 2) := by decide +kernel
theorem dd_162_88 : decode (mB 162) 88 = .ok (.invokevirtual 318, 3) := by decide +kernel
theorem dd_162_91 : decode (mB 162) 91 = .ok (.iastore, 1) := by decide +kernel
theorem dd_162_92 : decode (mB 162) 92 = .ok (.goto 147, 3) := by decide +kernel
theorem dd_162_95 : decode (mB 162) 95 = .ok (.aload_n 0, 1) := by decide +kernel
theorem dd_162_96 : decode (mB 162) 96 = .ok (.getfield 55, 3) := by decide +kernel
theorem dd_162_99 : decode (mB 162) 99 = .ok (.iload_n 2, 1) := by decide +kernel
theorem dd_162_100 : decode (mB 162) 100 = .ok (.aload_n 0, 1) := by decide +kernel
theorem dd_162_101 : decode (mB 162) 101 = .ok (.iconst 0, 1) := by decide +kernel
theorem dd_162_102 : decode (mB 162) 102 = .ok (.bipush 99, 2) := by decide +kernel
theorem dd_162_104 : decode (mB 162) 104 = .ok (.invokevirtual 318, 3) := by decide +kernel
theorem dd_162_107 : decode (mB 162) 107 = .ok (.iastore, 1) := by decide +kernel
theorem dd_162_108 : decode (mB 162) 108 = .ok (.goto 131, 3) := by decide +kernel
theorem dd_162_111 : decode (mB 162) 111 = .ok (.aload_n 0, 1) := by decide +kernel
theorem dd_162_112 : decode (mB 162) 112 = .ok (.getfield 55, 3) := by decide +kernel
theorem dd_162_115 : decode (mB 162) 115 = .ok (.iload_n 2, 1) := by decide +kernel
theorem dd_162_116 : decode (mB 162) 116 = .ok (.aload_n 0, 1) := by decide +kernel
theorem dd_162_117 : decode (mB 162) 117 = .ok (.iconst 0, 1) := by decide +kernel
theorem dd_162_118 : decode (mB 162) 118 = .ok (.bipush 100, 2) := by decide +kernel
theorem dd_162_120 : decode (mB 162) 120 = .ok (.invokevirtual 318, 3) := by decide +kernel
theorem dd_162_123 : decode (mB 162) 123 = .ok (.iastore, 1) := by decide +kernel
theorem dd_162_124 : decode (mB 162) 124 = .ok (.goto 115, 3) := by decide +kernel
theorem dd_162_127 : decode (mB 162) 127 = .ok (.aload_n 0, 1) := by decide +kernel
theorem dd_162_128 : decode (mB 162) 128 = .ok (.getfield 55, 3) := by decide +kernel
theorem dd_162_131 : decode (mB 162) 131 = .ok (.iload_n 2, 1) := by decide +kernel
theorem dd_162_132 : decode (mB 162) 132 = .ok (.aload_n 0, 1) := by decide +kernel
theorem dd_162_133 : decode (mB 162) 133 = .ok (.iconst 0, 1) := by decide +kernel
theorem dd_162_134 : decode (mB 162) 134 = .ok (.sipush 999, 3) := by decide +kernel
theorem dd_162_137 : decode (mB 162) 137 = .ok (.invokevirtual 318, 3) := by decide +kernel
theorem dd_162_140 : decode (mB 162) 140 = .ok (.iastore, 1) := by decide +kernel
theorem dd_162_141 : decode (mB 162) 141 = .ok (.aload_n 0, 1) := by decide +kernel
theorem dd_162_142 : decode (mB 162) 142 = .ok (.getfield 279, 3) := by decide +kernel
theorem dd_162_145 : decode (mB 162) 145 = .ok (.ifCond .ne 94, 3) := by decide +kernel
theorem dd_162_148 : decode (mB 162) 148 = .ok (.aload_n 0, 1) := by decide +kernel
theorem dd_162_149 : decode (mB 162) 149 = .ok (.invokevirtual 308, 3) := by decide +kernel
theorem dd_162_152 : decode (mB 162) 152 = .ok (.aload_n 0, 1) := by decide +kernel
theorem dd_162_153 : decode (mB 162) 153 = .ok (.aload_n 0, 1) := by decide +kernel
theorem dd_162_154 : decode (mB 162) 154 = .ok (.iconst 2, 1) := by decide +kernel
theorem dd_162_155 : decode (mB 162) 155 = .ok (.bipush 116, 2) := by decide +kernel
theorem dd_162_157 : decode (mB 162) 157 = .ok (.bipush 111, 2) := by decide +kernel
theorem dd_162_159 : decode (mB 162) 159 = .ok (.iconst 0, 1) := by decide +kernel
theorem dd_162_160 : decode (mB 162) 160 = .ok (.iconst 0, 1) := by decide +kernel
theorem dd_162_161 : decode (mB 162) 161 = .ok (.iconst 0, 1) := by decide +kernel
theorem dd_162_162 : decode (mB 162) 162 = .ok (.iconst 0, 1) := by decide +kernel
theorem dd_162_163 : decode (mB 162) 163 = .ok (.invokevirtual 304, 3) := by decide +kernel
theorem dd_162_166 : decode (mB 162) 166 = .ok (.invokevirtual 321, 3) := by decide +kernel
theorem dd_162_169 : decode (mB 162) 169 = .ok (.ifCond .eq 70, 3) := by decide +kernel
theorem dd_162_172 : decode (mB 162) 172 = .ok (.aload_n 0, 1) := by decide +kernel
theorem dd_162_173 : decode (mB 162) 173 = .ok (.getfield 58, 3) := by decide +kernel
theorem dd_162_176 : decode (mB 162) 176 = .ok (.iload_n 2, 1) := by decide +kernel
theorem dd_162_177 : decode (mB 162) 177 = .ok (.aload_n 0, 1) := by decide +kernel
theorem dd_162_178 : decode (mB 162) 178 = .ok (.iconst 1, 1) := by decide +kernel
theorem dd_162_179 : decode (mB 162) 179 = .ok (.sipush 999, 3) := by decide +kernel
theorem dd_162_182 : decode (mB 162) 182 = .ok (.invokevirtual 318, 3) := by decide +kernel
theorem dd_162_185 : decode (mB 162) 185 = .ok (.iastore, 1) := by decide +kernel
theorem dd_162_186 : decode (mB 162) 186 = .ok (.goto 53, 3) := by decide +kernel
theorem dd_162_189 : decode (mB 162) 189 = .ok (.aload_n 0, 1) := by decide +kernel
theorem dd_162_190 : decode (mB 162) 190 = .ok (.iload_n 2, 1) := by decide +kernel
theorem dd_162_191 : decode (mB 162) 191 = .ok (.invokevirtual 328, 3) := by decide +kernel
theorem dd_162_194 : decode (mB 162) 194 = .ok (.goto 45, 3) := by decide +kernel
theorem dd_162_197 : decode (mB 162) 197 = .ok (.aload_n 0, 1) := by decide +kernel
theorem dd_162_198 : decode (mB 162) 198 = .ok (.getfield 55, 3) := by decide +kernel
theorem dd_162_201 : decode (mB 162) 201 = .ok (.iload_n 2, 1) := by decide +kernel
theorem dd_162_202 : decode (mB 162) 202 = .ok (.aload_n 0, 1) := by decide +kernel
theorem dd_162_203 : decode (mB 162) 203 = .ok (.iconst 0, 1) := by decide +kernel
theorem dd_162_204 : decode (mB 162) 204 = .ok (.sipush 9999, 3) := by decide +kernel
theorem dd_162_207 : decode (mB 162) 207 = .ok (.invokevirtual 318, 3) := by decide +kernel
theorem dd_162_210 : decode (mB 162) 210 = .ok (.iastore, 1) := by decide +kernel
theorem dd_162_211 : decode (mB 162) 211 = .ok (.aload_n 0, 1) := by decide +kernel
theorem dd_162_212 : decode (mB 162) 212 = .ok (.aload_n 0, 1) := by decide +kernel
theorem dd_162_213 : decode (mB 162) 213 = .ok (.getfield 55, 3) := by decide +kernel
theorem dd_162_216 : decode (mB 162) 216 = .ok (.iload_n 2, 1) := by decide +kernel
theorem dd_162_217 : decode (mB 162) 217 = .ok (.iaload, 1) := by decide +kernel
theorem dd_162_218 : decode (mB 162) 218 = .ok (.aload_n 0, 1) := by decide +kernel
theorem dd_162_219 : decode (mB 162) 219 = .ok (.getfield 331, 3) := by decide +kernel
theorem dd_162_222 : decode (mB 162) 222 = .ok (.if_icmp .ge 7, 3) := by decide +kernel
theorem dd_162_225 : decode (mB 162) 225 = .ok (.iconst 1, 1) := by decide +kernel
theorem dd_162_226 : decode (mB 162) 226 = .ok (.goto 4, 3) := by decide +kernel
theorem dd_162_229 : decode (mB 162) 229 = .ok (.iconst 0, 1) := by decide +kernel
theorem dd_162_230 : decode (mB 162) 230 = .ok (.iconst 3, 1) := by decide +kernel
theorem dd_162_231 : decode (mB 162) 231 = .ok (.aload_n 0, 1) := by decide +kernel
theorem dd_162_232 : decode (mB 162) 232 = .ok (.getfield 286, 3) := by decide +kernel
theorem dd_162_235 : decode (mB 162) 235 = .ok (.invokevirtual 300, 3) := by decide +kernel
theorem dd_162_238 : decode (mB 162) 238 = .ok (.istore_n 3, 1) := by decide +kernel
theorem dd_162_239 : decode (mB 162) 239 = .ok (.aload_n 0, 1) := by decide +kernel
theorem dd_162_240 : decode (mB 162) 240 = .ok (.invokevirtual 282, 3) := by decide +kernel
theorem dd_162_243 : decode (mB 162) 243 = .ok (.istore_n 3, 1) := by decide +kernel
theorem dd_162_244 : decode (mB 162) 244 = .ok (.aload_n 0, 1) := by decide +kernel
theorem dd_162_245 : decode (mB 162) 245 = .ok (.iload_n 3, 1) := by decide +kernel
theorem dd_162_246 : decode (mB 162) 246 = .ok (.bipush 59, 2) := by decide +kernel
theorem dd_162_248 : decode (mB 162) 248 = .ok (.if_icmp .ne 7, 3) := by decide +kernel
theorem dd_162_251 : decode (mB 162) 251 = .ok (.iconst 1, 1) := by decide +kernel
theorem dd_162_252 : decode (mB 162) 252 = .ok (.goto 4, 3) := by decide +kernel
theorem dd_162_255 : decode (mB 162) 255 = .ok (.iconst 0, 1) := by decide +kernel
theorem dd_162_256 : decode (mB 162) 256 = .ok (.iconst 1, 1) := by decide +kernel
theorem dd_162_257 : decode (mB 162) 257 = .ok (.aload_n 0, 1) := by decide +kernel
theorem dd_162_258 : decode (mB 162) 258 = .ok (.getfield 276, 3) := by decide +kernel
theorem dd_162_261 : decode (mB 162) 261 = .ok (.invokevirtual 300, 3) := by decide +kernel
theorem dd_162_264 : decode (mB 162) 264 = .ok (.ifCond .eq 13, 3) := by decide +kernel
theorem dd_162_267 : decode (mB 162) 267 = .ok (.aload_n 0, 1) := by decide +kernel
theorem dd_162_268 : decode (mB 162) 268 = .ok (.dup, 1) := by decide +kernel
theorem dd_162_269 : decode (mB 162) 269 = .ok (.getfield 276, 3) := by decide +kernel
theorem dd_162_272 : decode (mB 162) 272 = .ok (.iconst 1, 1) := by decide +kernel
theorem dd_162_273 : decode (mB 162) 273 = .ok (.iadd, 1) := by decide +kernel
theorem dd_162_274 : decode (mB 162) 274 = .ok (.putfield 276, 3) := by decide +kernel
theorem dd_162_277 : decode (mB 162) 277 = .ok (.return_, 1) := by decide +kernel
theorem dd_163_0 : decode (mB 163) 0 = .ok (.iconst 0, 1) := by decide +kernel
theorem dd_163_1 : decode (mB 163) 1 = .ok (.istore_n 2, 1) := by decide +kernel
theorem dd_163_2 : decode (mB 163) 2 = .ok (.iconst 0, 1) := by decide +kernel
theorem dd_163_3 : decode (mB 163) 3 = .ok (.istore_n 3, 1) := by decide +kernel
theorem dd_163_4 : decode (mB 163) 4 = .ok (.iconst 0, 1) := by decide +kernel
theorem dd_163_5 : decode (mB 163) 5 = .ok (.istore 4, 2) := by decide +kernel
theorem dd_163_7 : decode (mB 163) 7 = .ok (.iconst 1, 1) := by decide +kernel
theorem dd_163_8 : decode (mB 163) 8 = .ok (.istore 5, 2) := by decide +kernel
theorem dd_163_10 : decode (mB 163) 10 = .ok (.iload 5, 2) := by decide +kernel
theorem dd_163_12 : decode (mB 163) 12 = .ok (.ifCond .eq 122, 3) := by decide +kernel
theorem dd_163_15 : decode (mB 163) 15 = .ok (.aload_n 0, 1) := by decide +kernel
theorem dd_163_16 : decode (mB 163) 16 = .ok (.getfield 279, 3) := by decide +kernel
theorem dd_163_19 : decode (mB 163) 19 = .ok (.ifCond .ne 115, 3) := by decide +kernel
theorem dd_163_22 : decode (mB 163) 22 = .ok (.aload_n 0, 1) := by decide +kernel
theorem dd_163_23 : decode (mB 163) 23 = .ok (.invokevirtual 308, 3) := by decide +kernel
theorem dd_163_26 : decode (mB 163) 26 = .ok (.aload_n 0, 1) := by decide +kernel
theorem dd_163_27 : decode (mB 163) 27 = .ok (.invokevirtual 311, 3) := by decide +kernel
theorem dd_163_30 : decode (mB 163) 30 = .ok (.istore 6, 2) := by decide +kernel
theorem dd_163_32 : decode (mB 163) 32 = .ok (.aload_n 0, 1) := by decide +kernel
theorem dd_163_33 : decode (mB 163) 33 = .ok (.iload 6, 2) := by decide +kernel
theorem dd_163_35 : decode (mB 163) 35 = .ok (.ifCond .lt 7, 3) := by decide +kernel
theorem dd_163_38 : decode (mB 163) 38 = .ok (.iconst 1, 1) := by decide +kernel
theorem dd_163_39 : decode (mB 163) 39 = .ok (.goto 4, 3) := by decide +kernel
theorem dd_163_42 : decode (mB 163) 42 = .ok (.iconst 0, 1) := by decide +kernel
theorem dd_163_43 : decode (mB 163) 43 = .ok (.iconst 1, 1) := by decide +kernel
theorem dd_163_44 : decode (mB 163) 44 = .ok (.aload_n 0, 1) := by decide +kernel
theorem dd_163_45 : decode (mB 163) 45 = .ok (.getfield 286, 3) := by decide +kernel
theorem dd_163_48 : decode (mB 163) 48 = .ok (.invokevirtual 300, 3) := by decide +kernel
theorem dd_163_51 : decode (mB 163) 51 = .ok (.ifCond .eq 80, 3) := by decide +kernel
theorem dd_163_54 : decode (mB 163) 54 = .ok (.aload_n 0, 1) := by decide +kernel
theorem dd_163_55 : decode (mB 163) 55 = .ok (.iload_n 2, 1) := by decide +kernel
theorem dd_163_56 : decode (mB 163) 56 = .ok (.iload 6, 2) := by decide +kernel
theorem dd_163_58 : decode (mB 163) 58 = .ok (.ishr, 1) := by decide +kernel
theorem dd_163_59 : decode (mB 163) 59 = .ok (.iconst 1, 1) := by decide +kernel
theorem dd_163_60 : decode (mB 163) 60 = .ok (.iand, 1) := by decide +kernel
theorem dd_163_61 : decode (mB 163) 61 = .ok (.ifCond .ne 7, 3) := by decide +kernel
theorem dd_163_64 : decode (mB 163) 64 = .ok (.iconst 1, 1) := by decide +kernel
theorem dd_163_65 : decode (mB 163) 65 = .ok (.goto 4, 3) := by decide +kernel
theorem dd_163_68 : decode (mB 163) 68 = .ok (.iconst 0, 1) := by decide +kernel
theorem dd_163_69 : decode (mB 163) 69 = .ok (.iconst 4, 1) := by decide +kernel
theorem dd_163_70 : decode (mB 163) 70 = .ok (.aload_n 0, 1) := by decide +kernel
theorem dd_163_71 : decode (mB 163) 71 = .ok (.getfield 286, 3) := by decide +kernel
theorem dd_163_74 : decode (mB 163) 74 = .ok (.invokevirtual 300, 3) := by decide +kernel
theorem dd_163_77 : decode (mB 163) 77 = .ok (.ifCond .eq 54, 3) := by decide +kernel
theorem dd_163_80 : decode (mB 163) 80 = .ok (.iload_n 2, 1) := by decide +kernel
theorem dd_163_81 : decode (mB 163) 81 = .ok (.iconst 1, 1) := by decide +kernel
theorem dd_163_82 : decode (mB 163) 82 = .ok (.iload 6, 2) := by decide +kernel
theorem dd_163_84 : decode (mB 163) 84 = .ok (.ishl, 1) := by decide +kernel
theorem dd_163_85 : decode (mB 163) 85 = .ok (.ior, 1) := by decide +kernel
theorem dd_163_86 : decode (mB 163) 86 = .ok (.istore_n 2, 1) := by decide +kernel
theorem dd_163_87 : decode (mB 163) 87 = .ok (.iload 4, 2) := by decide +kernel
theorem dd_163_89 : decode (mB 163) 89 = .ok (.iload 6, 2) := by decide +kernel
theorem dd_163_91 : decode (mB 163) 91 = .ok (.iconst 3, 1) := by decide +kernel
theorem dd_163_92 : decode (mB 163) 92 = .ok (.iload_n 3, 1) := by decide +kernel
theorem dd_163_93 : decode (mB 163) 93 = .ok (.imul, 1) := by decide +kernel
theorem dd_163_94 : decode (mB 163) 94 = .ok (.ishl, 1) := by decide +kernel
theorem dd_163_95 : decode (mB 163) 95 = .ok (.ior, 1) := by decide +kernel
theorem dd_163_96 : decode (mB 163) 96 = .ok (.istore 4, 2) := by decide +kernel
theorem dd_163_98 : decode (mB 163) 98 = .ok (.iinc 3 1, 3) := by decide +kernel
theorem dd_163_101 : decode (mB 163) 101 = .ok (.aload_n 0, 1) := by decide +kernel
theorem dd_163_102 : decode (mB 163) 102 = .ok (.invokevirtual 282, 3) := by decide +kernel
theorem dd_163_105 : decode (mB 163) 105 = .ok (.bipush 44, 2) := by decide +kernel
theorem dd_163_107 : decode (mB 163) 107 = .ok (.if_icmp .ne 7, 3) := by decide +kernel
theorem dd_163_110 : decode (mB 163) 110 = .ok (.iconst 1, 1) := by decide +kernel
theorem dd_163_111 : decode (mB 163) 111 = .ok (.goto 4, 3) := by decide +kernel
theorem dd_163_114 : decode (mB 163) 114 = .ok (.iconst 0, 1) := by decide +kernel
theorem dd_163_115 : decode (mB 163) 115 = .ok (.istore 5, 2) := by decide +kernel
theorem dd_163_117 : decode (mB 163) 117 = .ok (.aload_n 0, 1) := by decide +kernel
theorem dd_163_118 : decode (mB 163) 118 = .ok (.dup, 1) := by decide +kernel
theorem dd_163_119 : decode (mB 163) 119 = .ok (.getfield 276, 3) := by decide +kernel
theorem dd_163_122 : decode (mB 163) 122 = .ok (.iload 5, 2) := by decide +kernel
theorem dd_163_124 : decode (mB 163) 124 = .ok (.invokestatic 314, 3) := by decide +kernel
theorem dd_163_127 : decode (mB 163) 127 = .ok (.iadd, 1) := by decide +kernel
theorem dd_163_128 : decode (mB 163) 128 = .ok (.putfield 276, 3) := by decide +kernel
theorem dd_163_131 : decode (mB 163) 131 = .ok (.goto (-121), 3) := by decide +kernel
theorem dd_163_134 : decode (mB 163) 134 = .ok (.aload_n 0, 1) := by decide +kernel
theorem dd_163_135 : decode (mB 163) 135 = .ok (.getfield 55, 3) := by decide +kernel
theorem dd_163_138 : decode (mB 163) 138 = .ok (.iload_n 1, 1) := by decide +kernel
theorem dd_163_139 : decode (mB 163) 139 = .ok (.iload 4, 2) := by decide +kernel
theorem dd_163_141 : decode (mB 163) 141 = .ok (.iastore, 1) := by decide +kernel
theorem dd_163_142 : decode (mB 163) 142 = .ok (.aload_n 0, 1) := by decide +kernel
theorem dd_163_143 : decode (mB 163) 143 = .ok (.getfield 58, 3) := by decide +kernel
theorem dd_163_146 : decode (mB 163) 146 = .ok (.iload_n 1, 1) := by decide +kernel
theorem dd_163_147 : decode (mB 163) 147 = .ok (.iload_n 3, 1) := by decide +kernel
theorem dd_163_148 : decode (mB 163) 148 = .ok (.iastore, 1) := by decide +kernel
theorem dd_163_149 : decode (mB 163) 149 = .ok (.return_, 1) := by decide +kernel
theorem dd_164_0 : decode (mB 164) 0 = .ok (.aload_n 0, 1) := by decide +kernel
theorem dd_164_1 : decode (mB 164) 1 = .ok (.iconst 5, 1) := by decide +kernel
theorem dd_164_2 : decode (mB 164) 2 = .ok (.bipush 102, 2) := by decide +kernel
theorem dd_164_4 : decode (mB 164) 4 = .ok (.bipush 105, 2) := by decide +kernel
theorem dd_164_6 : decode (mB 164) 6 = .ok (.bipush 120, 2) := by decide +kernel
theorem dd_164_8 : decode (mB 164) 8 = .ok (.bipush 101, 2) := by decide +kernel
theorem dd_164_10 : decode (mB 164) 10 = .ok (.bipush 100, 2) := by decide +kernel
theorem dd_164_12 : decode (mB 164) 12 = .ok (.iconst 0, 1) := by decide +kernel
theorem dd_164_13 : decode (mB 164) 13 = .ok (.invokevirtual 304, 3) := by decide +kernel
theorem dd_164_16 : decode (mB 164) 16 = .ok (.ifCond .eq 5, 3) := by decide +kernel
theorem dd_164_19 : decode (mB 164) 19 = .ok (.iconst 0, 1) := by decide +kernel
theorem dd_164_20 : decode (mB 164) 20 = .ok (.ireturn, 1) := by decide +kernel
theorem dd_164_21 : decode (mB 164) 21 = .ok (.aload_n 0, 1) := by decide +kernel
theorem dd_164_22 : decode (mB 164) 22 = .ok (.iconst 5, 1) := by decide +kernel
theorem dd_164_23 : decode (mB 164) 23 = .ok (.bipush 102, 2) := by decide +kernel
theorem dd_164_25 : decode (mB 164) 25 = .ok (.bipush 105, 2) := by decide +kernel
theorem dd_164_27 : decode (mB 164) 27 = .ok (.bipush 114, 2) := by decide +kernel
theorem dd_164_29 : decode (mB 164) 29 = .ok (.bipush 115, 2) := by decide +kernel
theorem dd_164_31 : decode (mB 164) 31 = .ok (.bipush 116, 2) := by decide +kernel
theorem dd_164_33 : decode (mB 164) 33 = .ok (.iconst 0, 1) := by decide +kernel
theorem dd_164_34 : decode (mB 164) 34 = .ok (.invokevirtual 304, 3) := by decide +kernel
theorem dd_164_37 : decode (mB 164) 37 = .ok (.ifCond .eq 5, 3) := by decide +kernel
theorem dd_164_40 : decode (mB 164) 40 = .ok (.iconst 1, 1) := by decide +kernel
theorem dd_164_41 : decode (mB 164) 41 = .ok (.ireturn, 1) := by decide +kernel
theorem dd_164_42 : decode (mB 164) 42 = .ok (.aload_n 0, 1) := by decide +kernel
theorem dd_164_43 : decode (mB 164) 43 = .ok (.bipush 6, 2) := by decide +kernel
theorem dd_164_45 : decode (mB 164) 45 = .ok (.bipush 98, 2) := by decide +kernel
theorem dd_164_47 : decode (mB 164) 47 = .ok (.bipush 111, 2) := by decide +kernel
theorem dd_164_49 : decode (mB 164) 49 = .ok (.bipush 111, 2) := by decide +kernel
theorem dd_164_51 : decode (mB 164) 51 = .ok (.bipush 107, 2) := by decide +kernel
theorem dd_164_53 : decode (mB 164) 53 = .ok (.bipush 101, 2) := by decide +kernel
theorem dd_164_55 : decode (mB 164) 55 = .ok (.bipush 100, 2) := by decide +kernel
theorem dd_164_57 : decode (mB 164) 57 = .ok (.invokevirtual 304, 3) := by decide +kernel
theorem dd_164_60 : decode (mB 164) 60 = .ok (.ifCond .eq 5, 3) := by decide +kernel
theorem dd_164_63 : decode (mB 164) 63 = .ok (.iconst 2, 1) := by decide +kernel
theorem dd_164_64 : decode (mB 164) 64 = .ok (.ireturn, 1) := by decide +kernel
theorem dd_164_65 : decode (mB 164) 65 = .ok (.aload_n 0, 1) := by decide +kernel
theorem dd_164_66 : decode (mB 164) 66 = .ok (.iconst 5, 1) := by decide +kernel
theorem dd_164_67 : decode (mB 164) 67 = .ok (.bipush 115, 2) := by decide +kernel
theorem dd_164_69 : decode (mB 164) 69 = .ok (.bipush 104, 2) := by decide +kernel
theorem dd_164_71 : decode (mB 164) 71 = .ok (.bipush 111, 2) := by decide +kernel
theorem dd_164_73 : decode (mB 164) 73 = .ok (.bipush 114, 2) := by decide +kernel
theorem dd_164_75 : decode (mB 164) 75 = .ok (.bipush 116, 2) := by decide +kernel
theorem dd_164_77 : decode (mB 164) 77 = .ok (.iconst 0, 1) := by decide +kernel
theorem dd_164_78 : decode (mB 164) 78 = .ok (.invokevirtual 304, 3) := by decide +kernel
theorem dd_164_81 : decode (mB 164) 81 = .ok (.ifCond .eq 5, 3) := by decide +kernel
theorem dd_164_84 : decode (mB 164) 84 = .ok (.iconst 3, 1) := by decide +kernel
theorem dd_164_85 : decode (mB 164) 85 = .ok (.ireturn, 1) := by decide +kernel
theorem dd_164_86 : decode (mB 164) 86 = .ok (.aload_n 0, 1) := by decide +kernel
theorem dd_164_87 : decode (mB 164) 87 = .ok (.iconst 3, 1) := by decide +kernel
theorem dd_164_88 : decode (mB 164) 88 = .ok (.bipush 102, 2) := by decide +kernel
theorem dd_164_90 : decode (mB 164) 90 = .ok (.bipush 97, 2) := by decide +kernel
theorem dd_164_92 : decode (mB 164) 92 = .ok (.bipush 114, 2) := by decide +kernel
theorem dd_164_94 : decode (mB 164) 94 = .ok (.iconst 0, 1) := by decide +kernel
theorem dd_164_95 : decode (mB 164) 95 = .ok (.iconst 0, 1) := by decide +kernel
theorem dd_164_96 : decode (mB 164) 96 = .ok (.iconst 0, 1) := by decide +kernel
theorem dd_164_97 : decode (mB 164) 97 = .ok (.invokevirtual 304, 3) := by decide +kernel
theorem dd_164_100 : decode (mB 164) 100 = .ok (.ifCond .eq 7, 3) := by decide +kernel
theorem dd_164_103 : decode (mB 164) 103 = .ok (.iconst 4, 1) := by decide +kernel
theorem dd_164_104 : decode (mB 164) 104 = .ok (.goto 4, 3) := by decide +kernel
theorem dd_164_107 : decode (mB 164) 107 = .ok (.iconst (-1), 1) := by decide +kernel
theorem dd_164_108 : decode (mB 164) 108 = .ok (.ireturn, 1) := by decide +kernel
theorem dd_165_0 : decode (mB 165) 0 = .ok (.iload_n 0, 1) := by decide +kernel
theorem dd_165_1 : decode (mB 165) 1 = .ok (.ifCond .eq 7, 3) := by decide +kernel
theorem dd_165_4 : decode (mB 165) 4 = .ok (.iconst 1, 1) := by decide +kernel
theorem dd_165_5 : decode (mB 165) 5 = .ok (.goto 4, 3) := by decide +kernel
theorem dd_165_8 : decode (mB 165) 8 = .ok (.iconst 0, 1) := by decide +kernel
theorem dd_165_9 : decode (mB 165) 9 = .ok (.ireturn, 1) := by decide +kernel
theorem dd_166_0 : decode (mB 166) 0 = .ok (.aload_n 0, 1) := by decide +kernel
theorem dd_166_1 : decode (mB 166) 1 = .ok (.invokevirtual 282, 3) := by decide +kernel
theorem dd_166_4 : decode (mB 166) 4 = .ok (.istore_n 3, 1) := by decide +kernel
theorem dd_166_5 : decode (mB 166) 5 = .ok (.aload_n 0, 1) := by decide +kernel
theorem dd_166_6 : decode (mB 166) 6 = .ok (.aload_n 0, 1) := by decide +kernel
theorem dd_166_7 : decode (mB 166) 7 = .ok (.getfield 276, 3) := by decide +kernel
theorem dd_166_10 : decode (mB 166) 10 = .ok (.putfield 286, 3) := by decide +kernel
theorem dd_166_13 : decode (mB 166) 13 = .ok (.aload_n 0, 1) := by decide +kernel
theorem dd_166_14 : decode (mB 166) 14 = .ok (.iload_n 3, 1) := by decide +kernel
theorem dd_166_15 : decode (mB 166) 15 = .ok (.i2l, 1) := by decide +kernel
theorem dd_166_16 : decode (mB 166) 16 = .ok (.ldc2_w 296, 3) := by decide +kernel
theorem dd_166_19 : decode (mB 166) 19 = .ok (.ldc2_w 298, 3) := by decide +kernel
theorem dd_166_22 : decode (mB 166) 22 = .ok (.invokestatic 183, 3) := by decide +kernel
theorem dd_166_25 : decode (mB 166) 25 = .ok (.iconst 1, 1) := by decide +kernel
theorem dd_166_26 : decode (mB 166) 26 = .ok (.aload_n 0, 1) := by decide +kernel
theorem dd_166_27 : decode (mB 166) 27 = .ok (.getfield 276, 3) := by decide +kernel
theorem dd_166_30 : decode (mB 166) 30 = .ok (.invokevirtual 300, 3) := by decide +kernel
theorem dd_166_33 : decode (mB 166) 33 = .ok (.ifCond .ne 5, 3) := by decide +kernel
theorem dd_166_36 : decode (mB 166) 36 = .ok (.iconst 0, 1) := by decide +kernel
theorem dd_166_37 : decode (mB 166) 37 = .ok (.ireturn, 1) := by decide +kernel
theorem dd_166_38 : decode (mB 166) 38 = .ok (.iconst 0, 1) := by decide +kernel
theorem dd_166_39 : decode (mB 166) 39 = .ok (.istore 4, 2) := by decide +kernel
theorem dd_166_41 : decode (mB 166) 41 = .ok (.aload_n 0, 1) := by decide +kernel
theorem dd_166_42 : decode (mB 166) 42 = .ok (.getfield 276, 3) := by decide +kernel
theorem dd_166_45 : decode (mB 166) 45 = .ok (.aload_n 0, 1) := by decide +kernel
theorem dd_166_46 : decode (mB 166) 46 = .ok (.getfield 271, 3) := by decide +kernel
theorem dd_166_49 : decode (mB 166) 49 = .ok (.if_icmp .ge 71, 3) := by decide +kernel
theorem dd_166_52 : decode (mB 166) 52 = .ok (.aload_n 0, 1) := by decide +kernel
theorem dd_166_53 : decode (mB 166) 53 = .ok (.getfield 64, 3) := by decide +kernel
theorem dd_166_56 : decode (mB 166) 56 = .ok (.aload_n 0, 1) := by decide +kernel
theorem dd_166_57 : decode (mB 166) 57 = .ok (.getfield 276, 3) := by decide +kernel
theorem dd_166_60 : decode (mB 166) 60 = .ok (.iaload, 1) := by decide +kernel
theorem dd_166_61 : decode (mB 166) 61 = .ok (.i2l, 1) := by decide +kernel
theorem dd_166_62 : decode (mB 166) 62 = .ok (.ldc2_w 296, 3) := by decide +kernel
theorem dd_166_65 : decode (mB 166) 65 = .ok (.ldc2_w 298, 3) := by decide +kernel
theorem dd_166_68 : decode (mB 166) 68 = .ok (.invokestatic 183, 3) := by decide +kernel
theorem dd_166_71 : decode (mB 166) 71 = .ok (.ifCond .eq 49, 3) := by decide +kernel
theorem dd_166_74 : decode (mB 166) 74 = .ok (.iload 4, 2) := by decide +kernel
theorem dd_166_76 : decode (mB 166) 76 = .ok (.sipush 9999, 3) := by decide +kernel
theorem dd_166_79 : decode (mB 166) 79 = .ok (.if_icmp .le 8, 3) := by decide +kernel
theorem dd_166_82 : decode (mB 166) 82 = .ok (.iload 4, 2) := by decide +kernel
theorem dd_166_84 : decode (mB 166) 84 = .ok (.goto 21, 3) := by decide +kernel
theorem dd_166_87 : decode (mB 166) 87 = .ok (.bipush 10, 2) := by decide +kernel
theorem dd_166_89 : decode (mB 166) 89 = .ok (.iload 4, 2) := by decide +kernel
theorem dd_166_91 : decode (mB 166) 91 = .ok (.imul, 1) := by decide +kernel
theorem dd_166_92 : decode (mB 166) 92 = .ok (.aload_n 0, 1) := by decide +kernel
theorem dd_166_93 : decode (mB 166) 93 = .ok (.getfield 64, 3) := by decide +kernel
theorem dd_166_96 : decode (mB 166) 96 = .ok (.aload_n 0, 1) := by decide +kernel
theorem dd_166_97 : decode (mB 166) 97 = .ok (.getfield 276, 3) := by decide +kernel
theorem dd_166_100 : decode (mB 166) 100 = .ok (.iaload, 1) := by decide +kernel
theorem dd_166_101 : decode (mB 166) 101 = .ok (.iadd, 1) := by decide +kernel
theorem dd_166_102 : decode (mB 166) 102 = .ok (.bipush 48, 2) := by decide +kernel
theorem dd_166_104 : decode (mB 166) 104 = .ok (.isub, 1) := by decide +kernel
theorem dd_166_105 : decode (mB 166) 105 = .ok (.istore 4, 2) := by decide +kernel
theorem dd_166_107 : decode (mB 166) 107 = .ok (.aload_n 0, 1) := by decide +kernel
theorem dd_166_108 : decode (mB 166) 108 = .ok (.dup, 1) := by decide +kernel
theorem dd_166_109 : decode (mB 166) 109 = .ok (.getfield 276, 3) := by decide +kernel
theorem dd_166_112 : decode (mB 166) 112 = .ok (.iconst 1, 1) := by decide +kernel
theorem dd_166_113 : decode (mB 166) 113 = .ok (.iadd, 1) := by decide +kernel
theorem dd_166_114 : decode (mB 166) 114 = .ok (.putfield 276, 3) := by decide +kernel
theorem dd_166_117 : decode (mB 166) 117 = .ok (.goto (-76), 3) := by decide +kernel
theorem dd_166_120 : decode (mB 166) 120 = .ok (.aload_n 0, 1) := by decide +kernel
theorem dd_166_121 : decode (mB 166) 121 = .ok (.aload_n 0, 1) := by decide +kernel
theorem dd_166_122 : decode (mB 166) 122 = .ok (.getfield 276, 3) := by decide +kernel
theorem dd_166_125 : decode (mB 166) 125 = .ok (.aload_n 0, 1) := by decide +kernel
theorem dd_166_126 : decode (mB 166) 126 = .ok (.getfield 286, 3) := by decide +kernel
theorem dd_166_129 : decode (mB 166) 129 = .ok (.isub, 1) := by decide +kernel
theorem dd_166_130 : decode (mB 166) 130 = .ok (.iconst 5, 1) := by decide +kernel
theorem dd_166_131 : decode (mB 166) 131 = .ok (.if_icmp .ge 20, 3) := by decide +kernel
theorem dd_166_134 : decode (mB 166) 134 = .ok (.iload 4, 2) := by decide +kernel
theorem dd_166_136 : decode (mB 166) 136 = .ok (.i2l, 1) := by decide +kernel
theorem dd_166_137 : decode (mB 166) 137 = .ok (.iload_n 1, 1) := by decide +kernel
theorem dd_166_138 : decode (mB 166) 138 = .ok (.i2l, 1) := by decide +kernel
theorem dd_166_139 : decode (mB 166) 139 = .ok (.iload_n 2, 1) := by decide +kernel
theorem dd_166_140 : decode (mB 166) 140 = .ok (.i2l, 1) := by decide +kernel
theorem dd_166_141 : decode (mB 166) 141 = .ok (.invokestatic 183, 3) := by decide +kernel
theorem dd_166_144 : decode (mB 166) 144 = .ok (.ifCond .eq 7, 3) := by decide +kernel
theorem dd_166_147 : decode (mB 166) 147 = .ok (.iconst 1, 1) := by decide +kernel
theorem dd_166_148 : decode (mB 166) 148 = .ok (.goto 4, 3) := by decide +kernel
theorem dd_166_151 : decode (mB 166) 151 = .ok (.iconst 0, 1) := by decide +kernel
theorem dd_166_152 : decode (mB 166) 152 = .ok (.iconst 2, 1) := by decide +kernel
theorem dd_166_153 : decode (mB 166) 153 = .ok (.aload_n 0, 1) := by decide +kernel
theorem dd_166_154 : decode (mB 166) 154 = .ok (.getfield 286, 3) := by decide +kernel
theorem dd_166_157 : decode (mB 166) 157 = .ok (.invokevirtual 300, 3) := by decide +kernel
theorem dd_166_160 : decode (mB 166) 160 = .ok (.istore 5, 2) := by decide +kernel
theorem dd_166_162 : decode (mB 166) 162 = .ok (.iload 4, 2) := by decide +kernel
theorem dd_166_164 : decode (mB 166) 164 = .ok (.ireturn, 1) := by decide +kernel
theorem dd_167_0 : decode (mB 167) 0 = .ok (.aload_n 0, 1) := by decide +kernel
theorem dd_167_1 : decode (mB 167) 1 = .ok (.iload_n 1, 1) := by decide +kernel
theorem dd_167_2 : decode (mB 167) 2 = .ok (.iconst 1, 1) := by decide +kernel
theorem dd_167_3 : decode (mB 167) 3 = .ok (.aload_n 0, 1) := by decide +kernel
theorem dd_167_4 : decode (mB 167) 4 = .ok (.getfield 286, 3) := by decide +kernel
theorem dd_167_7 : decode (mB 167) 7 = .ok (.invokevirtual 300, 3) := by decide +kernel
theorem dd_167_10 : decode (mB 167) 10 = .ok (.ireturn, 1) := by decide +kernel
theorem dd_168_0 : decode (mB 168) 0 = .ok (.aload_n 0, 1) := by decide +kernel
theorem dd_168_1 : decode (mB 168) 1 = .ok (.getfield 55, 3) := by decide +kernel
theorem dd_168_4 : decode (mB 168) 4 = .ok (.iload_n 1, 1) := by decide +kernel
theorem dd_168_5 : decode (mB 168) 5 = .ok (.aload_n 0, 1) := by decide +kernel
theorem dd_168_6 : decode (mB 168) 6 = .ok (.iconst 0, 1) := by decide +kernel
theorem dd_168_7 : decode (mB 168) 7 = .ok (.sipush 479, 3) := by decide +kernel
theorem dd_168_10 : decode (mB 168) 10 = .ok (.invokevirtual 318, 3) := by decide +kernel
theorem dd_168_13 : decode (mB 168) 13 = .ok (.iastore, 1) := by decide +kernel
theorem dd_168_14 : decode (mB 168) 14 = .ok (.aload_n 0, 1) := by decide +kernel
theorem dd_168_15 : decode (mB 168) 15 = .ok (.getfield 279, 3) := by decide +kernel
theorem dd_168_18 : decode (mB 168) 18 = .ok (.ifCond .ne 46, 3) := by decide +kernel
theorem dd_168_21 : decode (mB 168) 21 = .ok (.aload_n 0, 1) := by decide +kernel
theorem dd_168_22 : decode (mB 168) 22 = .ok (.invokevirtual 308, 3) := by decide +kernel
theorem dd_168_25 : decode (mB 168) 25 = .ok (.aload_n 0, 1) := by decide +kernel
theorem dd_168_26 : decode (mB 168) 26 = .ok (.aload_n 0, 1) := by decide +kernel
theorem dd_168_27 : decode (mB 168) 27 = .ok (.iconst 2, 1) := by decide +kernel
theorem dd_168_28 : decode (mB 168) 28 = .ok (.bipush 116, 2) := by decide +kernel
theorem dd_168_30 : decode (mB 168) 30 = .ok (.bipush 111, 2) := by decide +kernel
theorem dd_168_32 : decode (mB 168) 32 = .ok (.iconst 0, 1) := by decide +kernel
theorem dd_168_33 : decode (mB 168) 33 = .ok (.iconst 0, 1) := by decide +kernel
theorem dd_168_34 : decode (mB 168) 34 = .ok (.iconst 0, 1) := by decide +kernel
theorem dd_168_35 : decode (mB 168) 35 = .ok (.iconst 0, 1) := by decide +kernel
theorem dd_168_36 : decode (mB 168) 36 = .ok (.invokevirtual 304, 3) := by decide +kernel
theorem dd_168_39 : decode (mB 168) 39 = .ok (.invokevirtual 321, 3) := by decide +kernel
theorem dd_168_42 : decode (mB 168) 42 = .ok (.ifCond .eq 22, 3) := by decide +kernel
theorem dd_168_45 : decode (mB 168) 45 = .ok (.aload_n 0, 1) := by decide +kernel
theorem dd_168_46 : decode (mB 168) 46 = .ok (.getfield 58, 3) := by decide +kernel
theorem dd_168_49 : decode (mB 168) 49 = .ok (.iload_n 1, 1) := by decide +kernel
theorem dd_168_50 : decode (mB 168) 50 = .ok (.aload_n 0, 1) := by decide +kernel
theorem dd_168_51 : decode (mB 168) 51 = .ok (.aload_n 0, 1) := by decide +kernel
theorem dd_168_52 : decode (mB 168) 52 = .ok (.getfield 55, 3) := by decide +kernel
theorem dd_168_55 : decode (mB 168) 55 = .ok (.iload_n 1, 1) := by decide +kernel
theorem dd_168_56 : decode (mB 168) 56 = .ok (.iaload, 1) := by decide +kernel
theorem dd_168_57 : decode (mB 168) 57 = .ok (.sipush 479, 3) := by decide +kernel
theorem dd_168_60 : decode (mB 168) 60 = .ok (.invokevirtual 318, 3) := by decide +kernel
theorem dd_168_63 : decode (mB 168) 63 = .ok (.iastore, 1) := by decide +kernel
theorem dd_168_64 : decode (mB 168) 64 = .ok (.aload_n 0, 1) := by decide +kernel
theorem dd_168_65 : decode (mB 168) 65 = .ok (.getfield 279, 3) := by decide +kernel
theorem dd_168_68 : decode (mB 168) 68 = .ok (.ifCond .ne 40, 3) := by decide +kernel
theorem dd_168_71 : decode (mB 168) 71 = .ok (.aload_n 0, 1) := by decide +kernel
theorem dd_168_72 : decode (mB 168) 72 = .ok (.invokevirtual 308, 3) := by decide +kernel
theorem dd_168_75 : decode (mB 168) 75 = .ok (.aload_n 0, 1) := by decide +kernel
theorem dd_168_76 : decode (mB 168) 76 = .ok (.aload_n 0, 1) := by decide +kernel
theorem dd_168_77 : decode (mB 168) 77 = .ok (.iconst 2, 1) := by decide +kernel
theorem dd_168_78 : decode (mB 168) 78 = .ok (.bipush 98, 2) := by decide +kernel
theorem dd_168_80 : decode (mB 168) 80 = .ok (.bipush 121, 2) := by decide +kernel
theorem dd_168_82 : decode (mB 168) 82 = .ok (.iconst 0, 1) := by decide +kernel
theorem dd_168_83 : decode (mB 168) 83 = .ok (.iconst 0, 1) := by decide +kernel
theorem dd_168_84 : decode (mB 168) 84 = .ok (.iconst 0, 1) := by decide +kernel
theorem dd_168_85 : decode (mB 168) 85 = .ok (.iconst 0, 1) := by decide +kernel
theorem dd_168_86 : decode (mB 168) 86 = .ok (.invokevirtual 304, 3) := by decide +kernel
theorem dd_168_89 : decode (mB 168) 89 = .ok (.invokevirtual 321, 3) := by decide +kernel
theorem dd_168_92 : decode (mB 168) 92 = .ok (.ifCond .eq 16, 3) := by decide +kernel
theorem dd_168_95 : decode (mB 168) 95 = .ok (.aload_n 0, 1) := by decide +kernel
theorem dd_168_96 : decode (mB 168) 96 = .ok (.getfield 61, 3) := by decide +kernel
theorem dd_168_99 : decode (mB 168) 99 = .ok (.iload_n 1, 1) := by decide +kernel
theorem dd_168_100 : decode (mB 168) 100 = .ok (.aload_n 0, 1) := by decide +kernel
theorem dd_168_101 : decode (mB 168) 101 = .ok (.iconst 0, 1) := by decide +kernel
theorem dd_168_102 : decode (mB 168) 102 = .ok (.bipush 100, 2) := by decide +kernel
theorem dd_168_104 : decode (mB 168) 104 = .ok (.invokevirtual 318, 3) := by decide +kernel
theorem dd_168_107 : decode (mB 168) 107 = .ok (.iastore, 1) := by decide +kernel
theorem dd_168_108 : decode (mB 168) 108 = .ok (.return_, 1) := by decide +kernel
theorem dd_169_0 : decode (mB 169) 0 = .ok (.aload_n 0, 1) := by decide +kernel
theorem dd_169_1 : decode (mB 169) 1 = .ok (.getfield 67, 3) := by decide +kernel
theorem dd_169_4 : decode (mB 169) 4 = .ok (.ireturn, 1) := by decide +kernel
theorem dd_170_0 : decode (mB 170) 0 = .ok (.iload_n 1, 1) := by decide +kernel
theorem dd_170_1 : decode (mB 170) 1 = .ok (.invokestatic 213, 3) := by decide +kernel
theorem dd_170_4 : decode (mB 170) 4 = .ok (.ifCond .ne 6, 3) := by decide +kernel
theorem dd_170_7 : decode (mB 170) 7 = .ok (.ldc 200, 2) := by decide +kernel
theorem dd_170_9 : decode (mB 170) 9 = .ok (.ireturn, 1) := by decide +kernel
theorem dd_170_10 : decode (mB 170) 10 = .ok (.aload_n 0, 1) := by decide +kernel
theorem dd_170_11 : decode (mB 170) 11 = .ok (.iconst 0, 1) := by decide +kernel
theorem dd_170_12 : decode (mB 170) 12 = .ok (.putfield 340, 3) := by decide +kernel
theorem dd_170_15 : decode (mB 170) 15 = .ok (.aload_n 0, 1) := by decide +kernel
theorem dd_170_16 : decode (mB 170) 16 = .ok (.iload_n 1, 1) := by decide +kernel
theorem dd_170_17 : decode (mB 170) 17 = .ok (.invokevirtual 355, 3) := by decide +kernel
theorem dd_170_20 : decode (mB 170) 20 = .ok (.iload_n 2, 1) := by decide +kernel
theorem dd_170_21 : decode (mB 170) 21 = .ok (.i2l, 1) := by decide +kernel
theorem dd_170_22 : decode (mB 170) 22 = .ok (.ldc2_w 358, 3) := by decide +kernel
theorem dd_170_25 : decode (mB 170) 25 = .ok (.ldc2_w 360, 3) := by decide +kernel
theorem dd_170_28 : decode (mB 170) 28 = .ok (.invokestatic 183, 3) := by decide +kernel
theorem dd_170_31 : decode (mB 170) 31 = .ok (.ifCond .eq 33, 3) := by decide +kernel
theorem dd_170_34 : decode (mB 170) 34 = .ok (.iload_n 2, 1) := by decide +kernel
theorem dd_170_35 : decode (mB 170) 35 = .ok (.bipush 6, 2) := by decide +kernel
theorem dd_170_37 : decode (mB 170) 37 = .ok (.isub, 1) := by decide +kernel
theorem dd_170_38 : decode (mB 170) 38 = .ok (.aload_n 0, 1) := by decide +kernel
theorem dd_170_39 : decode (mB 170) 39 = .ok (.getfield 352, 3) := by decide +kernel
theorem dd_170_42 : decode (mB 170) 42 = .ok (.if_icmp .ge 20, 3) := by decide +kernel
theorem dd_170_45 : decode (mB 170) 45 = .ok (.aload_n 0, 1) := by decide +kernel
theorem dd_170_46 : decode (mB 170) 46 = .ok (.getfield 349, 3) := by decide +kernel
theorem dd_170_49 : decode (mB 170) 49 = .ok (.iconst 3, 1) := by decide +kernel
theorem dd_170_50 : decode (mB 170) 50 = .ok (.iload_n 2, 1) := by decide +kernel
theorem dd_170_51 : decode (mB 170) 51 = .ok (.bipush 6, 2) := by decide +kernel
theorem dd_170_53 : decode (mB 170) 53 = .ok (.isub, 1) := by decide +kernel
theorem dd_170_54 : decode (mB 170) 54 = .ok (.imul, 1) := by decide +kernel
theorem dd_170_55 : decode (mB 170) 55 = .ok (.ishr, 1) := by decide +kernel
theorem dd_170_56 : decode (mB 170) 56 = .ok (.bipush 7, 2) := by decide +kernel
theorem dd_170_58 : decode (mB 170) 58 = .ok (.iand, 1) := by decide +kernel
theorem dd_170_59 : decode (mB 170) 59 = .ok (.goto 4, 3) := by decide +kernel
theorem dd_170_62 : decode (mB 170) 62 = .ok (.iconst (-1), 1) := by decide +kernel
theorem dd_170_63 : decode (mB 170) 63 = .ok (.ireturn, 1) := by decide +kernel
theorem dd_170_64 : decode (mB 170) 64 = .ok (.iload_n 2, 1) := by decide +kernel
theorem dd_170_65 : decode (mB 170) 65 = .ok (.i2l, 1) := by decide +kernel
theorem dd_170_66 : decode (mB 170) 66 = .ok (.ldc2_w 362, 3) := by decide +kernel
theorem dd_170_69 : decode (mB 170) 69 = .ok (.ldc2_w 364, 3) := by decide +kernel
theorem dd_170_72 : decode (mB 170) 72 = .ok (.invokestatic 183, 3) := by decide +kernel
theorem dd_170_75 : decode (mB 170) 75 = .ok (.ifCond .eq 12, 3) := by decide +kernel
theorem dd_170_78 : decode (mB 170) 78 = .ok (.aload_n 0, 1) := by decide +kernel
theorem dd_170_79 : decode (mB 170) 79 = .ok (.iload_n 2, 1) := by decide +kernel
theorem dd_170_80 : decode (mB 170) 80 = .ok (.bipush 20, 2) := by decide +kernel
theorem dd_170_82 : decode (mB 170) 82 = .ok (.isub, 1) := by decide +kernel
theorem dd_170_83 : decode (mB 170) 83 = .ok (.invokevirtual 366, 3) := by decide +kernel
theorem dd_170_86 : decode (mB 170) 86 = .ok (.ireturn, 1) := by decide +kernel
theorem dd_170_87 : decode (mB 170) 87 = .ok (.iload_n 2, 1) := by decide +kernel
theorem dd_170_88 : decode (mB 170) 88 = .ok (.lookupswitch 115 #[(0, 68), (1, 75), (2, 82), (3, 89), (4, 96), (5, 104), (1000, 109)], 68) := by decide +kernel
theorem dd_170_156 : decode (mB 170) 156 = .ok (.aload_n 0, 1) := by decide +kernel
theorem dd_170_157 : decode (mB 170) 157 = .ok (.getfield 78, 3) := by decide +kernel
theorem dd_170_160 : decode (mB 170) 160 = .ok (.iconst 1, 1) := by decide +kernel
theorem dd_170_161 : decode (mB 170) 161 = .ok (.iaload, 1) := by decide +kernel
theorem dd_170_162 : decode (mB 170) 162 = .ok (.ireturn, 1) := by decide +kernel
theorem dd_170_163 : decode (mB 170) 163 = .ok (.aload_n 0, 1) := by decide +kernel
theorem dd_170_164 : decode (mB 170) 164 = .ok (.getfield 78, 3) := by decide +kernel
theorem dd_170_167 : decode (mB 170) 167 = .ok (.iconst 2, 1) := by decide +kernel
theorem dd_170_168 : decode (mB 170) 168 = .ok (.iaload, 1) := by decide +kernel
theorem dd_170_169 : decode (mB 170) 169 = .ok (.ireturn, 1) := by decide +kernel
theorem dd_170_170 : decode (mB 170) 170 = .ok (.aload_n 0, 1) := by decide +kernel
theorem dd_170_171 : decode (mB 170) 171 = .ok (.getfield 78, 3) := by decide +kernel
theorem dd_170_174 : decode (mB 170) 174 = .ok (.iconst 3, 1) := by decide +kernel
theorem dd_170_175 : decode (mB 170) 175 = .ok (.iaload, 1) := by decide +kernel
theorem dd_170_176 : decode (mB 170) 176 = .ok (.ireturn, 1) := by decide +kernel
theorem dd_170_177 : decode (mB 170) 177 = .ok (.aload_n 0, 1) := by decide +kernel
theorem dd_170_178 : decode (mB 170) 178 = .ok (.getfield 78, 3) := by decide +kernel
theorem dd_170_181 : decode (mB 170) 181 = .ok (.iconst 4, 1) := by decide +kernel
theorem dd_170_182 : decode (mB 170) 182 = .ok (.iaload, 1) := by decide +kernel
theorem dd_170_183 : decode (mB 170) 183 = .ok (.ireturn, 1) := by decide +kernel
theorem dd_170_184 : decode (mB 170) 184 = .ok (.aload_n 0, 1) := by decide +kernel
theorem dd_170_185 : decode (mB 170) 185 = .ok (.getfield 78, 3) := by decide +kernel
theorem dd_170_188 : decode (mB 170) 188 = .ok (.bipush 7, 2) := by decide +kernel
theorem dd_170_190 : decode (mB 170) 190 = .ok (.iaload, 1) := by decide +kernel
theorem dd_170_191 : decode (mB 170) 191 = .ok (.ireturn, 1) := by decide +kernel
theorem dd_170_192 : decode (mB 170) 192 = .ok (.aload_n 0, 1) := by decide +kernel
theorem dd_170_193 : decode (mB 170) 193 = .ok (.getfield 352, 3) := by decide +kernel
theorem dd_170_196 : decode (mB 170) 196 = .ok (.ireturn, 1) := by decide +kernel
theorem dd_170_197 : decode (mB 170) 197 = .ok (.aload_n 0, 1) := by decide +kernel
theorem dd_170_198 : decode (mB 170) 198 = .ok (.iload_n 1, 1) := by decide +kernel
theorem dd_170_199 : decode (mB 170) 199 = .ok (.invokevirtual 369, 3) := by decide +kernel
theorem dd_170_202 : decode (mB 170) 202 = .ok (.ireturn, 1) := by decide +kernel
theorem dd_170_203 : decode (mB 170) 203 = .ok (.ldc 200, 2) := by decide +kernel
theorem dd_170_205 : decode (mB 170) 205 = .ok (.ireturn, 1) := by decide +kernel
theorem dd_171_0 : decode (mB 171) 0 = .ok (.aload_n 0, 1) := by decide +kernel
theorem dd_171_1 : decode (mB 171) 1 = .ok (.iload_n 1, 1) := by decide +kernel
theorem dd_171_2 : decode (mB 171) 2 = .ok (.invokevirtual 346, 3) := by decide +kernel
theorem dd_171_5 : decode (mB 171) 5 = .ok (.aload_n 0, 1) := by decide +kernel
theorem dd_171_6 : decode (mB 171) 6 = .ok (.sipush 136, 3) := by decide +kernel
theorem dd_171_9 : decode (mB 171) 9 = .ok (.putfield 349, 3) := by decide +kernel
theorem dd_171_12 : decode (mB 171) 12 = .ok (.aload_n 0, 1) := by decide +kernel
theorem dd_171_13 : decode (mB 171) 13 = .ok (.iconst 3, 1) := by decide +kernel
theorem dd_171_14 : decode (mB 171) 14 = .ok (.putfield 352, 3) := by decide +kernel
theorem dd_171_17 : decode (mB 171) 17 = .ok (.aload_n 0, 1) := by decide +kernel
theorem dd_171_18 : decode (mB 171) 18 = .ok (.getfield 78, 3) := by decide +kernel
theorem dd_171_21 : decode (mB 171) 21 = .ok (.iconst 1, 1) := by decide +kernel
theorem dd_171_22 : decode (mB 171) 22 = .ok (.iconst 2, 1) := by decide +kernel
theorem dd_171_23 : decode (mB 171) 23 = .ok (.iastore, 1) := by decide +kernel
theorem dd_171_24 : decode (mB 171) 24 = .ok (.aload_n 0, 1) := by decide +kernel
theorem dd_171_25 : decode (mB 171) 25 = .ok (.getfield 78, 3) := by decide +kernel
theorem dd_171_28 : decode (mB 171) 28 = .ok (.iconst 2, 1) := by decide +kernel
theorem dd_171_29 : decode (mB 171) 29 = .ok (.iconst 0, 1) := by decide +kernel
theorem dd_171_30 : decode (mB 171) 30 = .ok (.iastore, 1) := by decide +kernel
theorem dd_171_31 : decode (mB 171) 31 = .ok (.aload_n 0, 1) := by decide +kernel
theorem dd_171_32 : decode (mB 171) 32 = .ok (.getfield 78, 3) := by decide +kernel
theorem dd_171_35 : decode (mB 171) 35 = .ok (.iconst 3, 1) := by decide +kernel
theorem dd_171_36 : decode (mB 171) 36 = .ok (.iconst 5, 1) := by decide +kernel
theorem dd_171_37 : decode (mB 171) 37 = .ok (.iastore, 1) := by decide +kernel
theorem dd_171_38 : decode (mB 171) 38 = .ok (.aload_n 0, 1) := by decide +kernel
theorem dd_171_39 : decode (mB 171) 39 = .ok (.getfield 78, 3) := by decide +kernel
theorem dd_171_42 : decode (mB 171) 42 = .ok (.iconst 4, 1) := by decide +kernel
theorem dd_171_43 : decode (mB 171) 43 = .ok (.bipush 6, 2) := by decide +kernel
theorem dd_171_45 : decode (mB 171) 45 = .ok (.iastore, 1) := by decide +kernel
theorem dd_171_46 : decode (mB 171) 46 = .ok (.aload_n 0, 1) := by decide +kernel
theorem dd_171_47 : decode (mB 171) 47 = .ok (.getfield 78, 3) := by decide +kernel
theorem dd_171_50 : decode (mB 171) 50 = .ok (.bipush 7, 2) := by decide +kernel
theorem dd_171_52 : decode (mB 171) 52 = .ok (.bipush 50, 2) := by decide +kernel
theorem dd_171_54 : decode (mB 171) 54 = .ok (.iastore, 1) := by decide +kernel
theorem dd_171_55 : decode (mB 171) 55 = .ok (.iconst 0, 1) := by decide +kernel
theorem dd_171_56 : decode (mB 171) 56 = .ok (.istore_n 2, 1) := by decide +kernel
theorem dd_171_57 : decode (mB 171) 57 = .ok (.iload_n 2, 1) := by decide +kernel
theorem dd_171_58 : decode (mB 171) 58 = .ok (.aload_n 0, 1) := by decide +kernel
theorem dd_171_59 : decode (mB 171) 59 = .ok (.getfield 343, 3) := by decide +kernel
theorem dd_171_62 : decode (mB 171) 62 = .ok (.if_icmp .ge 99, 3) := by decide +kernel
theorem dd_171_65 : decode (mB 171) 65 = .ok (.bipush 10, 2) := by decide +kernel
theorem dd_171_67 : decode (mB 171) 67 = .ok (.aload_n 0, 1) := by decide +kernel
theorem dd_171_68 : decode (mB 171) 68 = .ok (.getfield 75, 3) := by decide +kernel
theorem dd_171_71 : decode (mB 171) 71 = .ok (.iload_n 2, 1) := by decide +kernel
theorem dd_171_72 : decode (mB 171) 72 = .ok (.iaload, 1) := by decide +kernel
theorem dd_171_73 : decode (mB 171) 73 = .ok (.imul, 1) := by decide +kernel
theorem dd_171_74 : decode (mB 171) 74 = .ok (.istore_n 3, 1) := by decide +kernel
theorem dd_171_75 : decode (mB 171) 75 = .ok (.iload_n 3, 1) := by decide +kernel
theorem dd_171_76 : decode (mB 171) 76 = .ok (.bipush 10, 2) := by decide +kernel
theorem dd_171_78 : decode (mB 171) 78 = .ok (.aload_n 0, 1) := by decide +kernel
theorem dd_171_79 : decode (mB 171) 79 = .ok (.getfield 75, 3) := by decide +kernel
theorem dd_171_82 : decode (mB 171) 82 = .ok (.iload_n 2, 1) := by decide +kernel
theorem dd_171_83 : decode (mB 171) 83 = .ok (.iaload, 1) := by decide +kernel
theorem dd_171_84 : decode (mB 171) 84 = .ok (.imul, 1) := by decide +kernel
theorem dd_171_85 : decode (mB 171) 85 = .ok (.aload_n 0, 1) := by decide +kernel
theorem dd_171_86 : decode (mB 171) 86 = .ok (.getfield 49, 3) := by decide +kernel
theorem dd_171_89 : decode (mB 171) 89 = .ok (.aload_n 0, 1) := by decide +kernel
theorem dd_171_90 : decode (mB 171) 90 = .ok (.getfield 75, 3) := by decide +kernel
theorem dd_171_93 : decode (mB 171) 93 = .ok (.iload_n 2, 1) := by decide +kernel
theorem dd_171_94 : decode (mB 171) 94 = .ok (.iaload, 1) := by decide +kernel
theorem dd_171_95 : decode (mB 171) 95 = .ok (.iaload, 1) := by decide +kernel
theorem dd_171_96 : decode (mB 171) 96 = .ok (.iadd, 1) := by decide +kernel
theorem dd_171_97 : decode (mB 171) 97 = .ok (.if_icmp .ge 58, 3) := by decide +kernel
theorem dd_171_100 : decode (mB 171) 100 = .ok (.aload_n 0, 1) := by decide +kernel
theorem dd_171_101 : decode (mB 171) 101 = .ok (.getfield 52, 3) := by decide +kernel
theorem dd_171_104 : decode (mB 171) 104 = .ok (.iload_n 3, 1) := by decide +kernel
theorem dd_171_105 : decode (mB 171) 105 = .ok (.iaload, 1) := by decide +kernel
theorem dd_171_106 : decode (mB 171) 106 = .ok (.ifCond .ne 26, 3) := by decide +kernel
theorem dd_171_109 : decode (mB 171) 109 = .ok (.aload_n 0, 1) := by decide +kernel
theorem dd_171_110 : decode (mB 171) 110 = .ok (.aload_n 0, 1) := by decide +kernel
theorem dd_171_111 : decode (mB 171) 111 = .ok (.getfield 55, 3) := by decide +kernel
theorem dd_171_114 : decode (mB 171) 114 = .ok (.iload_n 3, 1) := by decide +kernel
theorem dd_171_115 : decode (mB 171) 115 = .ok (.iaload, 1) := by decide +kernel
theorem dd_171_116 : decode (mB 171) 116 = .ok (.putfield 349, 3) := by decide +kernel
theorem dd_171_119 : decode (mB 171) 119 = .ok (.aload_n 0, 1) := by decide +kernel
theorem dd_171_120 : decode (mB 171) 120 = .ok (.aload_n 0, 1) := by decide +kernel
theorem dd_171_121 : decode (mB 171) 121 = .ok (.getfield 58, 3) := by decide +kernel
theorem dd_171_124 : decode (mB 171) 124 = .ok (.iload_n 3, 1) := by decide +kernel
theorem dd_171_125 : decode (mB 171) 125 = .ok (.iaload, 1) := by decide +kernel
theorem dd_171_126 : decode (mB 171) 126 = .ok (.putfield 352, 3) := by decide +kernel
theorem dd_171_129 : decode (mB 171) 129 = .ok (.goto 20, 3) := by decide +kernel
theorem dd_171_132 : decode (mB 171) 132 = .ok (.aload_n 0, 1) := by decide +kernel
theorem dd_171_133 : decode (mB 171) 133 = .ok (.getfield 78, 3) := by decide +kernel
theorem dd_171_136 : decode (mB 171) 136 = .ok (.aload_n 0, 1) := by decide +kernel
theorem dd_171_137 : decode (mB 171) 137 = .ok (.getfield 52, 3) := by decide +kernel
theorem dd_171_140 : decode (mB 171) 140 = .ok (.iload_n 3, 1) := by decide +kernel
theorem dd_171_141 : decode (mB 171) 141 = .ok (.iaload, 1) := by decide +kernel
theorem dd_171_142 : decode (mB 171) 142 = .ok (.aload_n 0, 1) := by decide +kernel
theorem dd_171_143 : decode (mB 171) 143 = .ok (.getfield 55, 3) := by decide +kernel
theorem dd_171_146 : decode (mB 171) 146 = .ok (.iload_n 3, 1) := by decide +kernel
theorem dd_171_147 : decode (mB 171) 147 = .ok (.iaload, 1) := by decide +kernel
theorem dd_171_148 : decode (mB 171) 148 = .ok (.iastore, 1) := by decide +kernel
theorem dd_171_149 : decode (mB 171) 149 = .ok (.iinc 3 1, 3) := by decide +kernel
theorem dd_171_152 : decode (mB 171) 152 = .ok (.goto (-77), 3) := by decide +kernel
theorem dd_171_155 : decode (mB 171) 155 = .ok (.iinc 2 1, 3) := by decide +kernel
theorem dd_171_158 : decode (mB 171) 158 = .ok (.goto (-101), 3) := by decide +kernel
theorem dd_171_161 : decode (mB 171) 161 = .ok (.return_, 1) := by decide +kernel
theorem dd_172_0 : decode (mB 172) 0 = .ok (.iconst 0, 1) := by decide +kernel
theorem dd_172_1 : decode (mB 172) 1 = .ok (.istore_n 2, 1) := by decide +kernel
theorem dd_172_2 : decode (mB 172) 2 = .ok (.iload_n 2, 1) := by decide +kernel
theorem dd_172_3 : decode (mB 172) 3 = .ok (.aload_n 0, 1) := by decide +kernel
theorem dd_172_4 : decode (mB 172) 4 = .ok (.getfield 331, 3) := by decide +kernel
theorem dd_172_7 : decode (mB 172) 7 = .ok (.if_icmp .ge 41, 3) := by decide +kernel
theorem dd_172_10 : decode (mB 172) 10 = .ok (.aload_n 0, 1) := by decide +kernel
theorem dd_172_11 : decode (mB 172) 11 = .ok (.getfield 71, 3) := by decide +kernel
theorem dd_172_14 : decode (mB 172) 14 = .ok (.iload_n 2, 1) := by decide +kernel
theorem dd_172_15 : decode (mB 172) 15 = .ok (.aload_n 0, 1) := by decide +kernel
theorem dd_172_16 : decode (mB 172) 16 = .ok (.getfield 46, 3) := by decide +kernel
theorem dd_172_19 : decode (mB 172) 19 = .ok (.iload_n 2, 1) := by decide +kernel
theorem dd_172_20 : decode (mB 172) 20 = .ok (.iaload, 1) := by decide +kernel
theorem dd_172_21 : decode (mB 172) 21 = .ok (.iload_n 1, 1) := by decide +kernel
theorem dd_172_22 : decode (mB 172) 22 = .ok (.if_icmp .gt 18, 3) := by decide +kernel
theorem dd_172_25 : decode (mB 172) 25 = .ok (.aload_n 0, 1) := by decide +kernel
theorem dd_172_26 : decode (mB 172) 26 = .ok (.getfield 340, 3) := by decide +kernel
theorem dd_172_29 : decode (mB 172) 29 = .ok (.iload_n 2, 1) := by decide +kernel
theorem dd_172_30 : decode (mB 172) 30 = .ok (.ishr, 1) := by decide +kernel
theorem dd_172_31 : decode (mB 172) 31 = .ok (.iconst 1, 1) := by decide +kernel
theorem dd_172_32 : decode (mB 172) 32 = .ok (.iand, 1) := by decide +kernel
theorem dd_172_33 : decode (mB 172) 33 = .ok (.ifCond .ne 7, 3) := by decide +kernel
theorem dd_172_36 : decode (mB 172) 36 = .ok (.iconst 1, 1) := by decide +kernel
theorem dd_172_37 : decode (mB 172) 37 = .ok (.goto 4, 3) := by decide +kernel
theorem dd_172_40 : decode (mB 172) 40 = .ok (.iconst 0, 1) := by decide +kernel
theorem dd_172_41 : decode (mB 172) 41 = .ok (.bastore, 1) := by decide +kernel
theorem dd_172_42 : decode (mB 172) 42 = .ok (.iinc 2 1, 3) := by decide +kernel
theorem dd_172_45 : decode (mB 172) 45 = .ok (.goto (-43), 3) := by decide +kernel
theorem dd_172_48 : decode (mB 172) 48 = .ok (.aload_n 0, 1) := by decide +kernel
theorem dd_172_49 : decode (mB 172) 49 = .ok (.getfield 331, 3) := by decide +kernel
theorem dd_172_52 : decode (mB 172) 52 = .ok (.iconst 1, 1) := by decide +kernel
theorem dd_172_53 : decode (mB 172) 53 = .ok (.isub, 1) := by decide +kernel
theorem dd_172_54 : decode (mB 172) 54 = .ok (.istore_n 2, 1) := by decide +kernel
theorem dd_172_55 : decode (mB 172) 55 = .ok (.iload_n 2, 1) := by decide +kernel
theorem dd_172_56 : decode (mB 172) 56 = .ok (.ifCond .lt 67, 3) := by decide +kernel
theorem dd_172_59 : decode (mB 172) 59 = .ok (.bipush 10, 2) := by decide +kernel
theorem dd_172_61 : decode (mB 172) 61 = .ok (.iload_n 2, 1) := by decide +kernel
theorem dd_172_62 : decode (mB 172) 62 = .ok (.imul, 1) := by decide +kernel
theorem dd_172_63 : decode (mB 172) 63 = .ok (.istore_n 3, 1) := by decide +kernel
theorem dd_172_64 : decode (mB 172) 64 = .ok (.iload_n 3, 1) := by decide +kernel
theorem dd_172_65 : decode (mB 172) 65 = .ok (.bipush 10, 2) := by decide +kernel
theorem dd_172_67 : decode (mB 172) 67 = .ok (.iload_n 2, 1) := by decide +kernel
theorem dd_172_68 : decode (mB 172) 68 = .ok (.imul, 1) := by decide +kernel
theorem dd_172_69 : decode (mB 172) 69 = .ok (.aload_n 0, 1) := by decide +kernel
theorem dd_172_70 : decode (mB 172) 70 = .ok (.getfield 49, 3) := by decide +kernel
theorem dd_172_73 : decode (mB 172) 73 = .ok (.iload_n 2, 1) := by decide +kernel
theorem dd_172_74 : decode (mB 172) 74 = .ok (.iaload, 1) := by decide +kernel
theorem dd_172_75 : decode (mB 172) 75 = .ok (.iadd, 1) := by decide +kernel
theorem dd_172_76 : decode (mB 172) 76 = .ok (.if_icmp .ge 41, 3) := by decide +kernel
theorem dd_172_79 : decode (mB 172) 79 = .ok (.aload_n 0, 1) := by decide +kernel
theorem dd_172_80 : decode (mB 172) 80 = .ok (.getfield 71, 3) := by decide +kernel
theorem dd_172_83 : decode (mB 172) 83 = .ok (.iload_n 2, 1) := by decide +kernel
theorem dd_172_84 : decode (mB 172) 84 = .ok (.baload, 1) := by decide +kernel
theorem dd_172_85 : decode (mB 172) 85 = .ok (.ifCond .eq 32, 3) := by decide +kernel
theorem dd_172_88 : decode (mB 172) 88 = .ok (.aload_n 0, 1) := by decide +kernel
theorem dd_172_89 : decode (mB 172) 89 = .ok (.getfield 52, 3) := by decide +kernel
theorem dd_172_92 : decode (mB 172) 92 = .ok (.iload_n 3, 1) := by decide +kernel
theorem dd_172_93 : decode (mB 172) 93 = .ok (.iaload, 1) := by decide +kernel
theorem dd_172_94 : decode (mB 172) 94 = .ok (.bipush 8, 2) := by decide +kernel
theorem dd_172_96 : decode (mB 172) 96 = .ok (.if_icmp .ne 15, 3) := by decide +kernel
theorem dd_172_99 : decode (mB 172) 99 = .ok (.aload_n 0, 1) := by decide +kernel
theorem dd_172_100 : decode (mB 172) 100 = .ok (.getfield 71, 3) := by decide +kernel
theorem dd_172_103 : decode (mB 172) 103 = .ok (.aload_n 0, 1) := by decide +kernel
theorem dd_172_104 : decode (mB 172) 104 = .ok (.getfield 55, 3) := by decide +kernel
theorem dd_172_107 : decode (mB 172) 107 = .ok (.iload_n 3, 1) := by decide +kernel
theorem dd_172_108 : decode (mB 172) 108 = .ok (.iaload, 1) := by decide +kernel
theorem dd_172_109 : decode (mB 172) 109 = .ok (.iconst 0, 1) := by decide +kernel
theorem dd_172_110 : decode (mB 172) 110 = .ok (.bastore, 1) := by decide +kernel
theorem dd_172_111 : decode (mB 172) 111 = .ok (.iinc 3 1, 3) := by decide +kernel
theorem dd_172_114 : decode (mB 172) 114 = .ok (.goto (-50), 3) := by decide +kernel
theorem dd_172_117 : decode (mB 172) 117 = .ok (.iinc 2 (-1), 3) := by decide +kernel
theorem dd_172_120 : decode (mB 172) 120 = .ok (.goto (-65), 3) := by decide +kernel
theorem dd_172_123 : decode (mB 172) 123 = .ok (.aload_n 0, 1) := by decide +kernel
theorem dd_172_124 : decode (mB 172) 124 = .ok (.iconst 0, 1) := by decide +kernel
theorem dd_172_125 : decode (mB 172) 125 = .ok (.putfield 343, 3) := by decide +kernel
theorem dd_172_128 : decode (mB 172) 128 = .ok (.iconst 0, 1) := by decide +kernel
theorem dd_172_129 : decode (mB 172) 129 = .ok (.istore_n 2, 1) := by decide +kernel
theorem dd_172_130 : decode (mB 172) 130 = .ok (.iload_n 2, 1) := by decide +kernel
theorem dd_172_131 : decode (mB 172) 131 = .ok (.aload_n 0, 1) := by decide +kernel
theorem dd_172_132 : decode (mB 172) 132 = .ok (.getfield 331, 3) := by decide +kernel
theorem dd_172_135 : decode (mB 172) 135 = .ok (.if_icmp .ge 86, 3) := by decide +kernel
theorem dd_172_138 : decode (mB 172) 138 = .ok (.aload_n 0, 1) := by decide +kernel
theorem dd_172_139 : decode (mB 172) 139 = .ok (.getfield 71, 3) := by decide +kernel
theorem dd_172_142 : decode (mB 172) 142 = .ok (.iload_n 2, 1) := by decide +kernel
theorem dd_172_143 : decode (mB 172) 143 = .ok (.baload, 1) := by decide +kernel
theorem dd_172_144 : decode (mB 172) 144 = .ok (.ifCond .eq 71, 3) := by decide +kernel
theorem dd_172_147 : decode (mB 172) 147 = .ok (.aload_n 0, 1) := by decide +kernel
theorem dd_172_148 : decode (mB 172) 148 = .ok (.getfield 343, 3) := by decide +kernel
theorem dd_172_151 : decode (mB 172) 151 = .ok (.istore_n 3, 1) := by decide +kernel
theorem dd_172_152 : decode (mB 172) 152 = .ok (.iload_n 3, 1) := by decide +kernel
theorem dd_172_153 : decode (mB 172) 153 = .ok (.ifCond .le 45, 3) := by decide +kernel
theorem dd_172_156 : decode (mB 172) 156 = .ok (.aload_n 0, 1) := by decide +kernel
theorem dd_172_157 : decode (mB 172) 157 = .ok (.getfield 46, 3) := by decide +kernel
theorem dd_172_160 : decode (mB 172) 160 = .ok (.aload_n 0, 1) := by decide +kernel
theorem dd_172_161 : decode (mB 172) 161 = .ok (.getfield 75, 3) := by decide +kernel
theorem dd_172_164 : decode (mB 172) 164 = .ok (.iload_n 3, 1) := by decide +kernel
theorem dd_172_165 : decode (mB 172) 165 = .ok (.iconst 1, 1) := by decide +kernel
theorem dd_172_166 : decode (mB 172) 166 = .ok (.isub, 1) := by decide +kernel
theorem dd_172_167 : decode (mB 172) 167 = .ok (.iaload, 1) := by decide +kernel
theorem dd_172_168 : decode (mB 172) 168 = .ok (.iaload, 1) := by decide +kernel
theorem dd_172_169 : decode (mB 172) 169 = .ok (.aload_n 0, 1) := by decide +kernel
theorem dd_172_170 : decode (mB 172) 170 = .ok (.getfield 46, 3) := by decide +kernel
theorem dd_172_173 : decode (mB 172) 173 = .ok (.iload_n 2, 1) := by decide +kernel
theorem dd_172_174 : decode (mB 172) 174 = .ok (.iaload, 1) := by decide +kernel
theorem dd_172_175 : decode (mB 172) 175 = .ok (.if_icmp .le 23, 3) := by decide +kernel
theorem dd_172_178 : decode (mB 172) 178 = .ok (.aload_n 0, 1) := by decide +kernel
theorem dd_172_179 : decode (mB 172) 179 = .ok (.getfield 75, 3) := by decide +kernel
theorem dd_172_182 : decode (mB 172) 182 = .ok (.iload_n 3, 1) := by decide +kernel
theorem dd_172_183 : decode (mB 172) 183 = .ok (.aload_n 0, 1) := by decide +kernel
theorem dd_172_184 : decode (mB 172) 184 = .ok (.getfield 75, 3) := by decide +kernel
theorem dd_172_187 : decode (mB 172) 187 = .ok (.iload_n 3, 1) := by decide +kernel
theorem dd_172_188 : decode (mB 172) 188 = .ok (.iconst 1, 1) := by decide +kernel
theorem dd_172_189 : decode (mB 172) 189 = .ok (.isub, 1) := by decide +kernel
theorem dd_172_190 : decode (mB 172) 190 = .ok (.iaload, 1) := by decide +kernel
theorem dd_172_191 : decode (mB 172) 191 = .ok (.iastore, 1) := by decide +kernel
theorem dd_172_192 : decode (mB 172) 192 = .ok (.iinc 3 (-1), 3) := by decide +kernel
theorem dd_172_195 : decode (mB 172) 195 = .ok (.goto (-43), 3) := by decide +kernel
theorem dd_172_198 : decode (mB 172) 198 = .ok (.aload_n 0, 1) := by decide +kernel
theorem dd_172_199 : decode (mB 172) 199 = .ok (.getfield 75, 3) := by decide +kernel
theorem dd_172_202 : decode (mB 172) 202 = .ok (.iload_n 3, 1) := by decide +kernel
theorem dd_172_203 : decode (mB 172) 203 = .ok (.iload_n 2, 1) := by decide +kernel
theorem dd_172_204 : decode (mB 172) 204 = .ok (.iastore, 1) := by decide +kernel
theorem dd_172_205 : decode (mB 172) 205 = .ok (.aload_n 0, 1) := by decide +kernel
theorem dd_172_206 : decode (mB 172) 206 = .ok (.dup, 1) := by decide +kernel
theorem dd_172_207 : decode (mB 172) 207 = .ok (.getfield 343, 3) := by decide +kernel
theorem dd_172_210 : decode (mB 172) 210 = .ok (.iconst 1, 1) := by decide +kernel
theorem dd_172_211 : decode (mB 172) 211 = .ok (.iadd, 1) := by decide +kernel
theorem dd_172_212 : decode (mB 172) 212 = .ok (.putfield 343, 3) := by decide +kernel
theorem dd_172_215 : decode (mB 172) 215 = .ok (.iinc 2 1, 3) := by decide +kernel
theorem dd_172_218 : decode (mB 172) 218 = .ok (.goto (-88), 3) := by decide +kernel
theorem dd_172_221 : decode (mB 172) 221 = .ok (.return_, 1) := by decide +kernel
theorem dd_173_0 : decode (mB 173) 0 = .ok (.iconst (-1), 1) := by decide +kernel
theorem dd_173_1 : decode (mB 173) 1 = .ok (.istore_n 2, 1) := by decide +kernel
theorem dd_173_2 : decode (mB 173) 2 = .ok (.iconst 0, 1) := by decide +kernel
theorem dd_173_3 : decode (mB 173) 3 = .ok (.istore_n 3, 1) := by decide +kernel
theorem dd_173_4 : decode (mB 173) 4 = .ok (.iload_n 3, 1) := by decide +kernel
theorem dd_173_5 : decode (mB 173) 5 = .ok (.aload_n 0, 1) := by decide +kernel
theorem dd_173_6 : decode (mB 173) 6 = .ok (.getfield 343, 3) := by decide +kernel
theorem dd_173_9 : decode (mB 173) 9 = .ok (.if_icmp .ge 113, 3) := by decide +kernel
theorem dd_173_12 : decode (mB 173) 12 = .ok (.bipush 10, 2) := by decide +kernel
theorem dd_173_14 : decode (mB 173) 14 = .ok (.aload_n 0, 1) := by decide +kernel
theorem dd_173_15 : decode (mB 173) 15 = .ok (.getfield 75, 3) := by decide +kernel
theorem dd_173_18 : decode (mB 173) 18 = .ok (.iload_n 3, 1) := by decide +kernel
theorem dd_173_19 : decode (mB 173) 19 = .ok (.iaload, 1) := by decide +kernel
theorem dd_173_20 : decode (mB 173) 20 = .ok (.imul, 1) := by decide +kernel
theorem dd_173_21 : decode (mB 173) 21 = .ok (.istore 4, 2) := by decide +kernel
theorem dd_173_23 : decode (mB 173) 23 = .ok (.iload 4, 2) := by decide +kernel
theorem dd_173_25 : decode (mB 173) 25 = .ok (.bipush 10, 2) := by decide +kernel
theorem dd_173_27 : decode (mB 173) 27 = .ok (.aload_n 0, 1) := by decide +kernel
theorem dd_173_28 : decode (mB 173) 28 = .ok (.getfield 75, 3) := by decide +kernel
theorem dd_173_31 : decode (mB 173) 31 = .ok (.iload_n 3, 1) := by decide +kernel
theorem dd_173_32 : decode (mB 173) 32 = .ok (.iaload, 1) := by decide +kernel
theorem dd_173_33 : decode (mB 173) 33 = .ok (.imul, 1) := by decide +kernel
theorem dd_173_34 : decode (mB 173) 34 = .ok (.aload_n 0, 1) := by decide +kernel
theorem dd_173_35 : decode (mB 173) 35 = .ok (.getfield 49, 3) := by decide +kernel
theorem dd_173_38 : decode (mB 173) 38 = .ok (.aload_n 0, 1) := by decide +kernel
theorem dd_173_39 : decode (mB 173) 39 = .ok (.getfield 75, 3) := by decide +kernel
theorem dd_173_42 : decode (mB 173) 42 = .ok (.iload_n 3, 1) := by decide +kernel
theorem dd_173_43 : decode (mB 173) 43 = .ok (.iaload, 1) := by decide +kernel
theorem dd_173_44 : decode (mB 173) 44 = .ok (.iaload, 1) := by decide +kernel
theorem dd_173_45 : decode (mB 173) 45 = .ok (.iadd, 1) := by decide +kernel
theorem dd_173_46 : decode (mB 173) 46 = .ok (.if_icmp .ge 70, 3) := by decide +kernel
theorem dd_173_49 : decode (mB 173) 49 = .ok (.aload_n 0, 1) := by decide +kernel
theorem dd_173_50 : decode (mB 173) 50 = .ok (.getfield 52, 3) := by decide +kernel
theorem dd_173_53 : decode (mB 173) 53 = .ok (.iload 4, 2) := by decide +kernel
theorem dd_173_55 : decode (mB 173) 55 = .ok (.iaload, 1) := by decide +kernel
theorem dd_173_56 : decode (mB 173) 56 = .ok (.iconst 5, 1) := by decide +kernel
theorem dd_173_57 : decode (mB 173) 57 = .ok (.if_icmp .ne 18, 3) := by decide +kernel
theorem dd_173_60 : decode (mB 173) 60 = .ok (.aload_n 0, 1) := by decide +kernel
theorem dd_173_61 : decode (mB 173) 61 = .ok (.getfield 58, 3) := by decide +kernel
theorem dd_173_64 : decode (mB 173) 64 = .ok (.iload 4, 2) := by decide +kernel
theorem dd_173_66 : decode (mB 173) 66 = .ok (.iaload, 1) := by decide +kernel
theorem dd_173_67 : decode (mB 173) 67 = .ok (.iload_n 1, 1) := by decide +kernel
theorem dd_173_68 : decode (mB 173) 68 = .ok (.if_icmp .lt 7, 3) := by decide +kernel
theorem dd_173_71 : decode (mB 173) 71 = .ok (.iconst 1, 1) := by decide +kernel
theorem dd_173_72 : decode (mB 173) 72 = .ok (.goto 4, 3) := by decide +kernel
theorem dd_173_75 : decode (mB 173) 75 = .ok (.iconst 0, 1) := by decide +kernel
theorem dd_173_76 : decode (mB 173) 76 = .ok (.istore 5, 2) := by decide +kernel
theorem dd_173_78 : decode (mB 173) 78 = .ok (.iload 5, 2) := by decide +kernel
theorem dd_173_80 : decode (mB 173) 80 = .ok (.ifCond .eq 28, 3) := by decide +kernel
theorem dd_173_83 : decode (mB 173) 83 = .ok (.iload_n 2, 1) := by decide +kernel
theorem dd_173_84 : decode (mB 173) 84 = .ok (.ifCond .lt 19, 3) := by decide +kernel
theorem dd_173_87 : decode (mB 173) 87 = .ok (.aload_n 0, 1) := by decide +kernel
theorem dd_173_88 : decode (mB 173) 88 = .ok (.getfield 58, 3) := by decide +kernel
theorem dd_173_91 : decode (mB 173) 91 = .ok (.iload 4, 2) := by decide +kernel
theorem dd_173_93 : decode (mB 173) 93 = .ok (.iaload, 1) := by decide +kernel
theorem dd_173_94 : decode (mB 173) 94 = .ok (.aload_n 0, 1) := by decide +kernel
theorem dd_173_95 : decode (mB 173) 95 = .ok (.getfield 58, 3) := by decide +kernel
theorem dd_173_98 : decode (mB 173) 98 = .ok (.iload_n 2, 1) := by decide +kernel
theorem dd_173_99 : decode (mB 173) 99 = .ok (.iaload, 1) := by decide +kernel
theorem dd_173_100 : decode (mB 173) 100 = .ok (.if_icmp .gt 8, 3) := by decide +kernel
theorem dd_173_103 : decode (mB 173) 103 = .ok (.iload 4, 2) := by decide +kernel
theorem dd_173_105 : decode (mB 173) 105 = .ok (.goto 4, 3) := by decide +kernel
theorem dd_173_108 : decode (mB 173) 108 = .ok (.iload_n 2, 1) := by decide +kernel
theorem dd_173_109 : decode (mB 173) 109 = .ok (.istore_n 2, 1) := by decide +kernel
theorem dd_173_110 : decode (mB 173) 110 = .ok (.iinc 4 1, 3) := by decide +kernel
theorem dd_173_113 : decode (mB 173) 113 = .ok (.goto (-90), 3) := by decide +kernel
theorem dd_173_116 : decode (mB 173) 116 = .ok (.iinc 3 1, 3) := by decide +kernel
theorem dd_173_119 : decode (mB 173) 119 = .ok (.goto (-115), 3) := by decide +kernel
theorem dd_173_122 : decode (mB 173) 122 = .ok (.iload_n 2, 1) := by decide +kernel
theorem dd_173_123 : decode (mB 173) 123 = .ok (.ifCond .ge 8, 3) := by decide +kernel
theorem dd_173_126 : decode (mB 173) 126 = .ok (.bipush 10, 2) := by decide +kernel
theorem dd_173_128 : decode (mB 173) 128 = .ok (.goto 9, 3) := by decide +kernel
theorem dd_173_131 : decode (mB 173) 131 = .ok (.aload_n 0, 1) := by decide +kernel
theorem dd_173_132 : decode (mB 173) 132 = .ok (.getfield 55, 3) := by decide +kernel
theorem dd_173_135 : decode (mB 173) 135 = .ok (.iload_n 2, 1) := by decide +kernel
theorem dd_173_136 : decode (mB 173) 136 = .ok (.iaload, 1) := by decide +kernel
theorem dd_173_137 : decode (mB 173) 137 = .ok (.ireturn, 1) := by decide +kernel
theorem dd_174_0 : decode (mB 174) 0 = .ok (.bipush 100, 2) := by decide +kernel
theorem dd_174_2 : decode (mB 174) 2 = .ok (.istore_n 2, 1) := by decide +kernel
theorem dd_174_3 : decode (mB 174) 3 = .ok (.iconst 0, 1) := by decide +kernel
theorem dd_174_4 : decode (mB 174) 4 = .ok (.istore_n 3, 1) := by decide +kernel
theorem dd_174_5 : decode (mB 174) 5 = .ok (.iload_n 3, 1) := by decide +kernel
theorem dd_174_6 : decode (mB 174) 6 = .ok (.aload_n 0, 1) := by decide +kernel
theorem dd_174_7 : decode (mB 174) 7 = .ok (.getfield 343, 3) := by decide +kernel
theorem dd_174_10 : decode (mB 174) 10 = .ok (.if_icmp .ge 100, 3) := by decide +kernel
theorem dd_174_13 : decode (mB 174) 13 = .ok (.bipush 10, 2) := by decide +kernel
theorem dd_174_15 : decode (mB 174) 15 = .ok (.aload_n 0, 1) := by decide +kernel
theorem dd_174_16 : decode (mB 174) 16 = .ok (.getfield 75, 3) := by decide +kernel
theorem dd_174_19 : decode (mB 174) 19 = .ok (.iload_n 3, 1) := by decide +kernel
theorem dd_174_20 : decode (mB 174) 20 = .ok (.iaload, 1) := by decide +kernel
theorem dd_174_21 : decode (mB 174) 21 = .ok (.imul, 1) := by decide +kernel
theorem dd_174_22 : decode (mB 174) 22 = .ok (.istore 4, 2) := by decide +kernel
theorem dd_174_24 : decode (mB 174) 24 = .ok (.iload 4, 2) := by decide +kernel
theorem dd_174_26 : decode (mB 174) 26 = .ok (.bipush 10, 2) := by decide +kernel
theorem dd_174_28 : decode (mB 174) 28 = .ok (.aload_n 0, 1) := by decide +kernel
theorem dd_174_29 : decode (mB 174) 29 = .ok (.getfield 75, 3) := by decide +kernel
theorem dd_174_32 : decode (mB 174) 32 = .ok (.iload_n 3, 1) := by decide +kernel
theorem dd_174_33 : decode (mB 174) 33 = .ok (.iaload, 1) := by decide +kernel
theorem dd_174_34 : decode (mB 174) 34 = .ok (.imul, 1) := by decide +kernel
theorem dd_174_35 : decode (mB 174) 35 = .ok (.aload_n 0, 1) := by decide +kernel
theorem dd_174_36 : decode (mB 174) 36 = .ok (.getfield 49, 3) := by decide +kernel
theorem dd_174_39 : decode (mB 174) 39 = .ok (.aload_n 0, 1) := by decide +kernel
theorem dd_174_40 : decode (mB 174) 40 = .ok (.getfield 75, 3) := by decide +kernel
theorem dd_174_43 : decode (mB 174) 43 = .ok (.iload_n 3, 1) := by decide +kernel
theorem dd_174_44 : decode (mB 174) 44 = .ok (.iaload, 1) := by decide +kernel
theorem dd_174_45 : decode (mB 174) 45 = .ok (.iaload, 1) := by decide +kernel
theorem dd_174_46 : decode (mB 174) 46 = .ok (.iadd, 1) := by decide +kernel
theorem dd_174_47 : decode (mB 174) 47 = .ok (.if_icmp .ge 57, 3) := by decide +kernel
theorem dd_174_50 : decode (mB 174) 50 = .ok (.aload_n 0, 1) := by decide +kernel
theorem dd_174_51 : decode (mB 174) 51 = .ok (.getfield 52, 3) := by decide +kernel
theorem dd_174_54 : decode (mB 174) 54 = .ok (.iload 4, 2) := by decide +kernel
theorem dd_174_56 : decode (mB 174) 56 = .ok (.iaload, 1) := by decide +kernel
theorem dd_174_57 : decode (mB 174) 57 = .ok (.bipush 6, 2) := by decide +kernel
theorem dd_174_59 : decode (mB 174) 59 = .ok (.if_icmp .ne 37, 3) := by decide +kernel
theorem dd_174_62 : decode (mB 174) 62 = .ok (.iload_n 1, 1) := by decide +kernel
theorem dd_174_63 : decode (mB 174) 63 = .ok (.i2l, 1) := by decide +kernel
theorem dd_174_64 : decode (mB 174) 64 = .ok (.aload_n 0, 1) := by decide +kernel
theorem dd_174_65 : decode (mB 174) 65 = .ok (.getfield 55, 3) := by decide +kernel
theorem dd_174_68 : decode (mB 174) 68 = .ok (.iload 4, 2) := by decide +kernel
theorem dd_174_70 : decode (mB 174) 70 = .ok (.iaload, 1) := by decide +kernel
theorem dd_174_71 : decode (mB 174) 71 = .ok (.i2l, 1) := by decide +kernel
theorem dd_174_72 : decode (mB 174) 72 = .ok (.aload_n 0, 1) := by decide +kernel
theorem dd_174_73 : decode (mB 174) 73 = .ok (.getfield 58, 3) := by decide +kernel
theorem dd_174_76 : decode (mB 174) 76 = .ok (.iload 4, 2) := by decide +kernel
theorem dd_174_78 : decode (mB 174) 78 = .ok (.iaload, 1) := by decide +kernel
theorem dd_174_79 : decode (mB 174) 79 = .ok (.i2l, 1) := by decide +kernel
theorem dd_174_80 : decode (mB 174) 80 = .ok (.invokestatic 183, 3) := by decide +kernel
theorem dd_174_83 : decode (mB 174) 83 = .ok (.ifCond .eq 13, 3) := by decide +kernel
theorem dd_174_86 : decode (mB 174) 86 = .ok (.aload_n 0, 1) := by decide +kernel
theorem dd_174_87 : decode (mB 174) 87 = .ok (.getfield 61, 3) := by decide +kernel
theorem dd_174_90 : decode (mB 174) 90 = .ok (.iload 4, 2) := by decide +kernel
theorem dd_174_92 : decode (mB 174) 92 = .ok (.iaload, 1) := by decide +kernel
theorem dd_174_93 : decode (mB 174) 93 = .ok (.goto 4, 3) := by decide +kernel
theorem dd_174_96 : decode (mB 174) 96 = .ok (.iload_n 2, 1) := by decide +kernel
theorem dd_174_97 : decode (mB 174) 97 = .ok (.istore_n 2, 1) := by decide +kernel
theorem dd_174_98 : decode (mB 174) 98 = .ok (.iinc 4 1, 3) := by decide +kernel
theorem dd_174_101 : decode (mB 174) 101 = .ok (.goto (-77), 3) := by decide +kernel
theorem dd_174_104 : decode (mB 174) 104 = .ok (.iinc 3 1, 3) := by decide +kernel
theorem dd_174_107 : decode (mB 174) 107 = .ok (.goto (-102), 3) := by decide +kernel
theorem dd_174_110 : decode (mB 174) 110 = .ok (.iload_n 2, 1) := by decide +kernel
theorem dd_174_111 : decode (mB 174) 111 = .ok (.ireturn, 1) := by decide +kernel
theorem dd_175_0 : decode (mB 175) 0 = .ok (.iload_n 1, 1) := by decide +kernel
theorem dd_175_1 : decode (mB 175) 1 = .ok (.invokestatic 192, 3) := by decide +kernel
theorem dd_175_4 : decode (mB 175) 4 = .ok (.ifCond .eq 10, 3) := by decide +kernel
theorem dd_175_7 : decode (mB 175) 7 = .ok (.iload_n 2, 1) := by decide +kernel
theorem dd_175_8 : decode (mB 175) 8 = .ok (.invokestatic 192, 3) := by decide +kernel
theorem dd_175_11 : decode (mB 175) 11 = .ok (.ifCond .ne 6, 3) := by decide +kernel
theorem dd_175_14 : decode (mB 175) 14 = .ok (.ldc 196, 2) := by decide +kernel
theorem dd_175_16 : decode (mB 175) 16 = .ok (.ireturn, 1) := by decide +kernel
theorem dd_175_17 : decode (mB 175) 17 = .ok (.iload_n 1, 1) := by decide +kernel
theorem dd_175_18 : decode (mB 175) 18 = .ok (.iload_n 2, 1) := by decide +kernel
theorem dd_175_19 : decode (mB 175) 19 = .ok (.if_icmp .eq 51, 3) := by decide +kernel
theorem dd_175_22 : decode (mB 175) 22 = .ok (.iload_n 3, 1) := by decide +kernel
theorem dd_175_23 : decode (mB 175) 23 = .ok (.i2l, 1) := by decide +kernel
theorem dd_175_24 : decode (mB 175) 24 = .ok (.lconst 1, 1) := by decide +kernel
theorem dd_175_25 : decode (mB 175) 25 = .ok (.ldc2_w 387, 3) := by decide +kernel
theorem dd_175_28 : decode (mB 175) 28 = .ok (.invokestatic 183, 3) := by decide +kernel
theorem dd_175_31 : decode (mB 175) 31 = .ok (.ifCond .eq 39, 3) := by decide +kernel
theorem dd_175_34 : decode (mB 175) 34 = .ok (.iload 4, 2) := by decide +kernel
theorem dd_175_36 : decode (mB 175) 36 = .ok (.i2l, 1) := by decide +kernel
theorem dd_175_37 : decode (mB 175) 37 = .ok (.lconst 0, 1) := by decide +kernel
theorem dd_175_38 : decode (mB 175) 38 = .ok (.ldc2_w 211, 3) := by decide +kernel
theorem dd_175_41 : decode (mB 175) 41 = .ok (.invokestatic 183, 3) := by decide +kernel
theorem dd_175_44 : decode (mB 175) 44 = .ok (.ifCond .eq 26, 3) := by decide +kernel
theorem dd_175_47 : decode (mB 175) 47 = .ok (.iload 4, 2) := by decide +kernel
theorem dd_175_49 : decode (mB 175) 49 = .ok (.iconst 2, 1) := by decide +kernel
theorem dd_175_50 : decode (mB 175) 50 = .ok (.if_icmp .ne 23, 3) := by decide +kernel
theorem dd_175_53 : decode (mB 175) 53 = .ok (.iload 5, 2) := by decide +kernel
theorem dd_175_55 : decode (mB 175) 55 = .ok (.i2l, 1) := by decide +kernel
theorem dd_175_56 : decode (mB 175) 56 = .ok (.aload_n 0, 1) := by decide +kernel
theorem dd_175_57 : decode (mB 175) 57 = .ok (.getfield 378, 3) := by decide +kernel
theorem dd_175_60 : decode (mB 175) 60 = .ok (.i2l, 1) := by decide +kernel
theorem dd_175_61 : decode (mB 175) 61 = .ok (.ldc2_w 206, 3) := by decide +kernel
theorem dd_175_64 : decode (mB 175) 64 = .ok (.invokestatic 183, 3) := by decide +kernel
theorem dd_175_67 : decode (mB 175) 67 = .ok (.ifCond .ne 6, 3) := by decide +kernel
theorem dd_175_70 : decode (mB 175) 70 = .ok (.ldc 200, 2) := by decide +kernel
theorem dd_175_72 : decode (mB 175) 72 = .ok (.ireturn, 1) := by decide +kernel
theorem dd_175_73 : decode (mB 175) 73 = .ok (.aload_n 0, 1) := by decide +kernel
theorem dd_175_74 : decode (mB 175) 74 = .ok (.getfield 378, 3) := by decide +kernel
theorem dd_175_77 : decode (mB 175) 77 = .ok (.sipush 480, 3) := by decide +kernel
theorem dd_175_80 : decode (mB 175) 80 = .ok (.if_icmp .ne 7, 3) := by decide +kernel
theorem dd_175_83 : decode (mB 175) 83 = .ok (.ldc_w 389, 3) := by decide +kernel
theorem dd_175_86 : decode (mB 175) 86 = .ok (.ireturn, 1) := by decide +kernel
theorem dd_175_87 : decode (mB 175) 87 = .ok (.aload_n 0, 1) := by decide +kernel
theorem dd_175_88 : decode (mB 175) 88 = .ok (.getfield 372, 3) := by decide +kernel
theorem dd_175_91 : decode (mB 175) 91 = .ok (.bipush 40, 2) := by decide +kernel
theorem dd_175_93 : decode (mB 175) 93 = .ok (.if_icmp .ne 8, 3) := by decide +kernel
theorem dd_175_96 : decode (mB 175) 96 = .ok (.ldc 201, 2) := by decide +kernel
theorem dd_175_98 : decode (mB 175) 98 = .ok (.goto 14, 3) := by decide +kernel
theorem dd_175_101 : decode (mB 175) 101 = .ok (.aload_n 0, 1) := by decide +kernel
theorem dd_175_102 : decode (mB 175) 102 = .ok (.iload_n 1, 1) := by decide +kernel
theorem dd_175_103 : decode (mB 175) 103 = .ok (.iload_n 2, 1) := by decide +kernel
theorem dd_175_104 : decode (mB 175) 104 = .ok (.iload_n 3, 1) := by decide +kernel
theorem dd_175_105 : decode (mB 175) 105 = .ok (.iload 4, 2) := by decide +kernel
theorem dd_175_107 : decode (mB 175) 107 = .ok (.iload 5, 2) := by decide +kernel
theorem dd_175_109 : decode (mB 175) 109 = .ok (.invokevirtual 390, 3) := by decide +kernel
theorem dd_175_112 : decode (mB 175) 112 = .ok (.ireturn, 1) := by decide +kernel
theorem dd_176_0 : decode (mB 176) 0 = .ok (.aload_n 0, 1) := by decide +kernel
theorem dd_176_1 : decode (mB 176) 1 = .ok (.getfield 99, 3) := by decide +kernel
theorem dd_176_4 : decode (mB 176) 4 = .ok (.aload_n 0, 1) := by decide +kernel
theorem dd_176_5 : decode (mB 176) 5 = .ok (.getfield 372, 3) := by decide +kernel
theorem dd_176_8 : decode (mB 176) 8 = .ok (.aload_n 0, 1) := by decide +kernel
theorem dd_176_9 : decode (mB 176) 9 = .ok (.iload_n 1, 1) := by decide +kernel
theorem dd_176_10 : decode (mB 176) 10 = .ok (.iload_n 2, 1) := by decide +kernel
theorem dd_176_11 : decode (mB 176) 11 = .ok (.invokevirtual 381, 3) := by decide +kernel
theorem dd_176_14 : decode (mB 176) 14 = .ok (.iastore, 1) := by decide +kernel
theorem dd_176_15 : decode (mB 176) 15 = .ok (.aload_n 0, 1) := by decide +kernel
theorem dd_176_16 : decode (mB 176) 16 = .ok (.getfield 81, 3) := by decide +kernel
theorem dd_176_19 : decode (mB 176) 19 = .ok (.aload_n 0, 1) := by decide +kernel
theorem dd_176_20 : decode (mB 176) 20 = .ok (.getfield 372, 3) := by decide +kernel
theorem dd_176_23 : decode (mB 176) 23 = .ok (.iload_n 1, 1) := by decide +kernel
theorem dd_176_24 : decode (mB 176) 24 = .ok (.iastore, 1) := by decide +kernel
theorem dd_176_25 : decode (mB 176) 25 = .ok (.aload_n 0, 1) := by decide +kernel
theorem dd_176_26 : decode (mB 176) 26 = .ok (.getfield 84, 3) := by decide +kernel
theorem dd_176_29 : decode (mB 176) 29 = .ok (.aload_n 0, 1) := by decide +kernel
theorem dd_176_30 : decode (mB 176) 30 = .ok (.getfield 372, 3) := by decide +kernel
theorem dd_176_33 : decode (mB 176) 33 = .ok (.iload_n 2, 1) := by decide +kernel
theorem dd_176_34 : decode (mB 176) 34 = .ok (.iastore, 1) := by decide +kernel
theorem dd_176_35 : decode (mB 176) 35 = .ok (.aload_n 0, 1) := by decide +kernel
theorem dd_176_36 : decode (mB 176) 36 = .ok (.getfield 87, 3) := by decide +kernel
theorem dd_176_39 : decode (mB 176) 39 = .ok (.aload_n 0, 1) := by decide +kernel
theorem dd_176_40 : decode (mB 176) 40 = .ok (.getfield 372, 3) := by decide +kernel
theorem dd_176_43 : decode (mB 176) 43 = .ok (.iload_n 3, 1) := by decide +kernel
theorem dd_176_44 : decode (mB 176) 44 = .ok (.iastore, 1) := by decide +kernel
theorem dd_176_45 : decode (mB 176) 45 = .ok (.aload_n 0, 1) := by decide +kernel
theorem dd_176_46 : decode (mB 176) 46 = .ok (.getfield 90, 3) := by decide +kernel
theorem dd_176_49 : decode (mB 176) 49 = .ok (.aload_n 0, 1) := by decide +kernel
theorem dd_176_50 : decode (mB 176) 50 = .ok (.getfield 372, 3) := by decide +kernel
theorem dd_176_53 : decode (mB 176) 53 = .ok (.iload 4, 2) := by decide +kernel
theorem dd_176_55 : decode (mB 176) 55 = .ok (.iastore, 1) := by decide +kernel
theorem dd_176_56 : decode (mB 176) 56 = .ok (.aload_n 0, 1) := by decide +kernel
theorem dd_176_57 : decode (mB 176) 57 = .ok (.getfield 93, 3) := by decide +kernel
theorem dd_176_60 : decode (mB 176) 60 = .ok (.aload_n 0, 1) := by decide +kernel
theorem dd_176_61 : decode (mB 176) 61 = .ok (.getfield 372, 3) := by decide +kernel
theorem dd_176_64 : decode (mB 176) 64 = .ok (.iload 4, 2) := by decide +kernel
theorem dd_176_66 : decode (mB 176) 66 = .ok (.iconst 2, 1) := by decide +kernel
theorem dd_176_67 : decode (mB 176) 67 = .ok (.if_icmp .ne 8, 3) := by decide +kernel
theorem dd_176_70 : decode (mB 176) 70 = .ok (.iload 5, 2) := by decide +kernel
theorem dd_176_72 : decode (mB 176) 72 = .ok (.goto 4, 3) := by decide +kernel
theorem dd_176_75 : decode (mB 176) 75 = .ok (.iconst (-1), 1) := by decide +kernel
theorem dd_176_76 : decode (mB 176) 76 = .ok (.iastore, 1) := by decide +kernel
theorem dd_176_77 : decode (mB 176) 77 = .ok (.aload_n 0, 1) := by decide +kernel
theorem dd_176_78 : decode (mB 176) 78 = .ok (.getfield 96, 3) := by decide +kernel
theorem dd_176_81 : decode (mB 176) 81 = .ok (.aload_n 0, 1) := by decide +kernel
theorem dd_176_82 : decode (mB 176) 82 = .ok (.getfield 372, 3) := by decide +kernel
theorem dd_176_85 : decode (mB 176) 85 = .ok (.aload_n 0, 1) := by decide +kernel
theorem dd_176_86 : decode (mB 176) 86 = .ok (.getfield 378, 3) := by decide +kernel
theorem dd_176_89 : decode (mB 176) 89 = .ok (.iastore, 1) := by decide +kernel
theorem dd_176_90 : decode (mB 176) 90 = .ok (.aload_n 0, 1) := by decide +kernel
theorem dd_176_91 : decode (mB 176) 91 = .ok (.getfield 102, 3) := by decide +kernel
theorem dd_176_94 : decode (mB 176) 94 = .ok (.aload_n 0, 1) := by decide +kernel
theorem dd_176_95 : decode (mB 176) 95 = .ok (.getfield 372, 3) := by decide +kernel
theorem dd_176_98 : decode (mB 176) 98 = .ok (.iconst 0, 1) := by decide +kernel
theorem dd_176_99 : decode (mB 176) 99 = .ok (.bastore, 1) := by decide +kernel
theorem dd_176_100 : decode (mB 176) 100 = .ok (.aload_n 0, 1) := by decide +kernel
theorem dd_176_101 : decode (mB 176) 101 = .ok (.aload_n 0, 1) := by decide +kernel
theorem dd_176_102 : decode (mB 176) 102 = .ok (.getfield 372, 3) := by decide +kernel
theorem dd_176_105 : decode (mB 176) 105 = .ok (.invokevirtual 384, 3) := by decide +kernel
theorem dd_176_108 : decode (mB 176) 108 = .ok (.aload_n 0, 1) := by decide +kernel
theorem dd_176_109 : decode (mB 176) 109 = .ok (.dup, 1) := by decide +kernel
theorem dd_176_110 : decode (mB 176) 110 = .ok (.getfield 372, 3) := by decide +kernel
theorem dd_176_113 : decode (mB 176) 113 = .ok (.iconst 1, 1) := by decide +kernel
theorem dd_176_114 : decode (mB 176) 114 = .ok (.iadd, 1) := by decide +kernel
theorem dd_176_115 : decode (mB 176) 115 = .ok (.putfield 372, 3) := by decide +kernel
theorem dd_176_118 : decode (mB 176) 118 = .ok (.aload_n 0, 1) := by decide +kernel
theorem dd_176_119 : decode (mB 176) 119 = .ok (.getfield 372, 3) := by decide +kernel
theorem dd_176_122 : decode (mB 176) 122 = .ok (.iconst 1, 1) := by decide +kernel
theorem dd_176_123 : decode (mB 176) 123 = .ok (.isub, 1) := by decide +kernel
theorem dd_176_124 : decode (mB 176) 124 = .ok (.ireturn, 1) := by decide +kernel
theorem dd_177_0 : decode (mB 177) 0 = .ok (.iconst 0, 1) := by decide +kernel
theorem dd_177_1 : decode (mB 177) 1 = .ok (.istore_n 3, 1) := by decide +kernel
theorem dd_177_2 : decode (mB 177) 2 = .ok (.iconst 0, 1) := by decide +kernel
theorem dd_177_3 : decode (mB 177) 3 = .ok (.istore 4, 2) := by decide +kernel
theorem dd_177_5 : decode (mB 177) 5 = .ok (.iconst 0, 1) := by decide +kernel
theorem dd_177_6 : decode (mB 177) 6 = .ok (.istore 5, 2) := by decide +kernel
theorem dd_177_8 : decode (mB 177) 8 = .ok (.iload 5, 2) := by decide +kernel
theorem dd_177_10 : decode (mB 177) 10 = .ok (.aload_n 0, 1) := by decide +kernel
theorem dd_177_11 : decode (mB 177) 11 = .ok (.getfield 372, 3) := by decide +kernel
theorem dd_177_14 : decode (mB 177) 14 = .ok (.if_icmp .ge 85, 3) := by decide +kernel
theorem dd_177_17 : decode (mB 177) 17 = .ok (.aload_n 0, 1) := by decide +kernel
theorem dd_177_18 : decode (mB 177) 18 = .ok (.getfield 81, 3) := by decide +kernel
theorem dd_177_21 : decode (mB 177) 21 = .ok (.iload 5, 2) := by decide +kernel
theorem dd_177_23 : decode (mB 177) 23 = .ok (.iaload, 1) := by decide +kernel
theorem dd_177_24 : decode (mB 177) 24 = .ok (.iload_n 1, 1) := by decide +kernel
theorem dd_177_25 : decode (mB 177) 25 = .ok (.if_icmp .ne 14, 3) := by decide +kernel
theorem dd_177_28 : decode (mB 177) 28 = .ok (.aload_n 0, 1) := by decide +kernel
theorem dd_177_29 : decode (mB 177) 29 = .ok (.getfield 84, 3) := by decide +kernel
theorem dd_177_32 : decode (mB 177) 32 = .ok (.iload 5, 2) := by decide +kernel
theorem dd_177_34 : decode (mB 177) 34 = .ok (.iaload, 1) := by decide +kernel
theorem dd_177_35 : decode (mB 177) 35 = .ok (.iload_n 2, 1) := by decide +kernel
theorem dd_177_36 : decode (mB 177) 36 = .ok (.if_icmp .eq 25, 3) := by decide +kernel
theorem dd_177_39 : decode (mB 177) 39 = .ok (.aload_n 0, 1) := by decide +kernel
theorem dd_177_40 : decode (mB 177) 40 = .ok (.getfield 81, 3) := by decide +kernel
theorem dd_177_43 : decode (mB 177) 43 = .ok (.iload 5, 2) := by decide +kernel
theorem dd_177_45 : decode (mB 177) 45 = .ok (.iaload, 1) := by decide +kernel
theorem dd_177_46 : decode (mB 177) 46 = .ok (.iload_n 2, 1) := by decide +kernel
theorem dd_177_47 : decode (mB 177) 47 = .ok (.if_icmp .ne 18, 3) := by decide +kernel
theorem dd_177_50 : decode (mB 177) 50 = .ok (.aload_n 0, 1) := by decide +kernel
theorem dd_177_51 : decode (mB 177) 51 = .ok (.getfield 84, 3) := by decide +kernel
theorem dd_177_54 : decode (mB 177) 54 = .ok (.iload 5, 2) := by decide +kernel
theorem dd_177_56 : decode (mB 177) 56 = .ok (.iaload, 1) := by decide +kernel
theorem dd_177_57 : decode (mB 177) 57 = .ok (.iload_n 1, 1) := by decide +kernel
theorem dd_177_58 : decode (mB 177) 58 = .ok (.if_icmp .ne 7, 3) := by decide +kernel
theorem dd_177_61 : decode (mB 177) 61 = .ok (.iconst 1, 1) := by decide +kernel
theorem dd_177_62 : decode (mB 177) 62 = .ok (.goto 4, 3) := by decide +kernel
theorem dd_177_65 : decode (mB 177) 65 = .ok (.iconst 0, 1) := by decide +kernel
theorem dd_177_66 : decode (mB 177) 66 = .ok (.istore 6, 2) := by decide +kernel
theorem dd_177_68 : decode (mB 177) 68 = .ok (.iload_n 3, 1) := by decide +kernel
theorem dd_177_69 : decode (mB 177) 69 = .ok (.iload 6, 2) := by decide +kernel
theorem dd_177_71 : decode (mB 177) 71 = .ok (.ifCond .eq 16, 3) := by decide +kernel
theorem dd_177_74 : decode (mB 177) 74 = .ok (.aload_n 0, 1) := by decide +kernel
theorem dd_177_75 : decode (mB 177) 75 = .ok (.iload 5, 2) := by decide +kernel
theorem dd_177_77 : decode (mB 177) 77 = .ok (.invokevirtual 375, 3) := by decide +kernel
theorem dd_177_80 : decode (mB 177) 80 = .ok (.ifCond .eq 7, 3) := by decide +kernel
theorem dd_177_83 : decode (mB 177) 83 = .ok (.iconst 1, 1) := by decide +kernel
theorem dd_177_84 : decode (mB 177) 84 = .ok (.goto 4, 3) := by decide +kernel
theorem dd_177_87 : decode (mB 177) 87 = .ok (.iconst 0, 1) := by decide +kernel
theorem dd_177_88 : decode (mB 177) 88 = .ok (.invokestatic 314, 3) := by decide +kernel
theorem dd_177_91 : decode (mB 177) 91 = .ok (.iadd, 1) := by decide +kernel
theorem dd_177_92 : decode (mB 177) 92 = .ok (.istore_n 3, 1) := by decide +kernel
theorem dd_177_93 : decode (mB 177) 93 = .ok (.iinc 5 1, 3) := by decide +kernel
theorem dd_177_96 : decode (mB 177) 96 = .ok (.goto (-88), 3) := by decide +kernel
theorem dd_177_99 : decode (mB 177) 99 = .ok (.iconst 0, 1) := by decide +kernel
theorem dd_177_100 : decode (mB 177) 100 = .ok (.istore 5, 2) := by decide +kernel
theorem dd_177_102 : decode (mB 177) 102 = .ok (.iload 5, 2) := by decide +kernel
theorem dd_177_104 : decode (mB 177) 104 = .ok (.aload_n 0, 1) := by decide +kernel
theorem dd_177_105 : decode (mB 177) 105 = .ok (.getfield 187, 3) := by decide +kernel
theorem dd_177_108 : decode (mB 177) 108 = .ok (.if_icmp .ge 66, 3) := by decide +kernel
theorem dd_177_111 : decode (mB 177) 111 = .ok (.iload 4, 2) := by decide +kernel
theorem dd_177_113 : decode (mB 177) 113 = .ok (.aload_n 0, 1) := by decide +kernel
theorem dd_177_114 : decode (mB 177) 114 = .ok (.getfield 7, 3) := by decide +kernel
theorem dd_177_117 : decode (mB 177) 117 = .ok (.iload 5, 2) := by decide +kernel
theorem dd_177_119 : decode (mB 177) 119 = .ok (.iaload, 1) := by decide +kernel
theorem dd_177_120 : decode (mB 177) 120 = .ok (.iload_n 1, 1) := by decide +kernel
theorem dd_177_121 : decode (mB 177) 121 = .ok (.if_icmp .ne 14, 3) := by decide +kernel
theorem dd_177_124 : decode (mB 177) 124 = .ok (.aload_n 0, 1) := by decide +kernel
theorem dd_177_125 : decode (mB 177) 125 = .ok (.getfield 13, 3) := by decide +kernel
theorem dd_177_128 : decode (mB 177) 128 = .ok (.iload 5, 2) := by decide +kernel
theorem dd_177_130 : decode (mB 177) 130 = .ok (.iaload, 1) := by decide +kernel
theorem dd_177_131 : decode (mB 177) 131 = .ok (.iload_n 2, 1) := by decide +kernel
theorem dd_177_132 : decode (mB 177) 132 = .ok (.if_icmp .eq 25, 3) := by decide +kernel
theorem dd_177_135 : decode (mB 177) 135 = .ok (.aload_n 0, 1) := by decide +kernel
theorem dd_177_136 : decode (mB 177) 136 = .ok (.getfield 7, 3) := by decide +kernel
theorem dd_177_139 : decode (mB 177) 139 = .ok (.iload 5, 2) := by decide +kernel
theorem dd_177_141 : decode (mB 177) 141 = .ok (.iaload, 1) := by decide +kernel
theorem dd_177_142 : decode (mB 177) 142 = .ok (.iload_n 2, 1) := by decide +kernel
theorem dd_177_143 : decode (mB 177) 143 = .ok (.if_icmp .ne 18, 3) := by decide +kernel
theorem dd_177_146 : decode (mB 177) 146 = .ok (.aload_n 0, 1) := by decide +kernel
theorem dd_177_147 : decode (mB 177) 147 = .ok (.getfield 13, 3) := by decide +kernel
theorem dd_177_150 : decode (mB 177) 150 = .ok (.iload 5, 2) := by decide +kernel
theorem dd_177_152 : decode (mB 177) 152 = .ok (.iaload, 1) := by decide +kernel
theorem dd_177_153 : decode (mB 177) 153 = .ok (.iload_n 1, 1) := by decide +kernel
theorem dd_177_154 : decode (mB 177) 154 = .ok (.if_icmp .ne 7, 3) := by decide +kernel
theorem dd_177_157 : decode (mB 177) 157 = .ok (.iconst 1, 1) := by decide +kernel
theorem dd_177_158 : decode (mB 177) 158 = .ok (.goto 4, 3) := by decide +kernel
theorem dd_177_161 : decode (mB 177) 161 = .ok (.iconst 0, 1) := by decide +kernel
theorem dd_177_162 : decode (mB 177) 162 = .ok (.invokestatic 314, 3) := by decide +kernel
theorem dd_177_165 : decode (mB 177) 165 = .ok (.iadd, 1) := by decide +kernel
theorem dd_177_166 : decode (mB 177) 166 = .ok (.istore 4, 2) := by decide +kernel
theorem dd_177_168 : decode (mB 177) 168 = .ok (.iinc 5 1, 3) := by decide +kernel
theorem dd_177_171 : decode (mB 177) 171 = .ok (.goto (-69), 3) := by decide +kernel
theorem dd_177_174 : decode (mB 177) 174 = .ok (.aload_n 0, 1) := by decide +kernel
theorem dd_177_175 : decode (mB 177) 175 = .ok (.iconst 0, 1) := by decide +kernel
theorem dd_177_176 : decode (mB 177) 176 = .ok (.putfield 340, 3) := by decide +kernel
theorem dd_177_179 : decode (mB 177) 179 = .ok (.aload_n 0, 1) := by decide +kernel
theorem dd_177_180 : decode (mB 177) 180 = .ok (.aload_n 0, 1) := by decide +kernel
theorem dd_177_181 : decode (mB 177) 181 = .ok (.getfield 378, 3) := by decide +kernel
theorem dd_177_184 : decode (mB 177) 184 = .ok (.invokevirtual 355, 3) := by decide +kernel
theorem dd_177_187 : decode (mB 177) 187 = .ok (.aload_n 0, 1) := by decide +kernel
theorem dd_177_188 : decode (mB 177) 188 = .ok (.getfield 78, 3) := by decide +kernel
theorem dd_177_191 : decode (mB 177) 191 = .ok (.iconst 4, 1) := by decide +kernel
theorem dd_177_192 : decode (mB 177) 192 = .ok (.iaload, 1) := by decide +kernel
theorem dd_177_193 : decode (mB 177) 193 = .ok (.iload_n 3, 1) := by decide +kernel
theorem dd_177_194 : decode (mB 177) 194 = .ok (.imul, 1) := by decide +kernel
theorem dd_177_195 : decode (mB 177) 195 = .ok (.iconst 1, 1) := by decide +kernel
theorem dd_177_196 : decode (mB 177) 196 = .ok (.iload 4, 2) := by decide +kernel
theorem dd_177_198 : decode (mB 177) 198 = .ok (.iadd, 1) := by decide +kernel
theorem dd_177_199 : decode (mB 177) 199 = .ok (.idiv, 1) := by decide +kernel
theorem dd_177_200 : decode (mB 177) 200 = .ok (.ireturn, 1) := by decide +kernel
theorem dd_178_0 : decode (mB 178) 0 = .ok (.aload_n 0, 1) := by decide +kernel
theorem dd_178_1 : decode (mB 178) 1 = .ok (.getfield 105, 3) := by decide +kernel
theorem dd_178_4 : decode (mB 178) 4 = .ok (.iload_n 1, 1) := by decide +kernel
theorem dd_178_5 : decode (mB 178) 5 = .ok (.iaload, 1) := by decide +kernel
theorem dd_178_6 : decode (mB 178) 6 = .ok (.ifCond .eq 13, 3) := by decide +kernel
theorem dd_178_9 : decode (mB 178) 9 = .ok (.aload_n 0, 1) := by decide +kernel
theorem dd_178_10 : decode (mB 178) 10 = .ok (.getfield 105, 3) := by decide +kernel
theorem dd_178_13 : decode (mB 178) 13 = .ok (.iload_n 1, 1) := by decide +kernel
theorem dd_178_14 : decode (mB 178) 14 = .ok (.iaload, 1) := by decide +kernel
theorem dd_178_15 : decode (mB 178) 15 = .ok (.iconst 1, 1) := by decide +kernel
theorem dd_178_16 : decode (mB 178) 16 = .ok (.if_icmp .ne 7, 3) := by decide +kernel
theorem dd_178_19 : decode (mB 178) 19 = .ok (.iconst 1, 1) := by decide +kernel
theorem dd_178_20 : decode (mB 178) 20 = .ok (.goto 4, 3) := by decide +kernel
theorem dd_178_23 : decode (mB 178) 23 = .ok (.iconst 0, 1) := by decide +kernel
theorem dd_178_24 : decode (mB 178) 24 = .ok (.ireturn, 1) := by decide +kernel
theorem dd_179_0 : decode (mB 179) 0 = .ok (.aload_n 0, 1) := by decide +kernel
theorem dd_179_1 : decode (mB 179) 1 = .ok (.getfield 105, 3) := by decide +kernel
theorem dd_179_4 : decode (mB 179) 4 = .ok (.iload_n 1, 1) := by decide +kernel
theorem dd_179_5 : decode (mB 179) 5 = .ok (.iconst 0, 1) := by decide +kernel
theorem dd_179_6 : decode (mB 179) 6 = .ok (.iastore, 1) := by decide +kernel
theorem dd_179_7 : decode (mB 179) 7 = .ok (.aload_n 0, 1) := by decide +kernel
theorem dd_179_8 : decode (mB 179) 8 = .ok (.getfield 108, 3) := by decide +kernel
theorem dd_179_11 : decode (mB 179) 11 = .ok (.iload_n 1, 1) := by decide +kernel
theorem dd_179_12 : decode (mB 179) 12 = .ok (.iconst (-1), 1) := by decide +kernel
theorem dd_179_13 : decode (mB 179) 13 = .ok (.iastore, 1) := by decide +kernel
theorem dd_179_14 : decode (mB 179) 14 = .ok (.aload_n 0, 1) := by decide +kernel
theorem dd_179_15 : decode (mB 179) 15 = .ok (.getfield 111, 3) := by decide +kernel
theorem dd_179_18 : decode (mB 179) 18 = .ok (.iload_n 1, 1) := by decide +kernel
theorem dd_179_19 : decode (mB 179) 19 = .ok (.iconst (-1), 1) := by decide +kernel
theorem dd_179_20 : decode (mB 179) 20 = .ok (.iastore, 1) := by decide +kernel
theorem dd_179_21 : decode (mB 179) 21 = .ok (.aload_n 0, 1) := by decide +kernel
theorem dd_179_22 : decode (mB 179) 22 = .ok (.getfield 114, 3) := by decide +kernel
theorem dd_179_25 : decode (mB 179) 25 = .ok (.iload_n 1, 1) := by decide +kernel
theorem dd_179_26 : decode (mB 179) 26 = .ok (.iconst 0, 1) := by decide +kernel
theorem dd_179_27 : decode (mB 179) 27 = .ok (.iastore, 1) := by decide +kernel
theorem dd_179_28 : decode (mB 179) 28 = .ok (.aload_n 0, 1) := by decide +kernel
theorem dd_179_29 : decode (mB 179) 29 = .ok (.getfield 117, 3) := by decide +kernel
theorem dd_179_32 : decode (mB 179) 32 = .ok (.iload_n 1, 1) := by decide +kernel
theorem dd_179_33 : decode (mB 179) 33 = .ok (.iconst 0, 1) := by decide +kernel
theorem dd_179_34 : decode (mB 179) 34 = .ok (.iastore, 1) := by decide +kernel
theorem dd_179_35 : decode (mB 179) 35 = .ok (.aload_n 0, 1) := by decide +kernel
theorem dd_179_36 : decode (mB 179) 36 = .ok (.getfield 120, 3) := by decide +kernel
theorem dd_179_39 : decode (mB 179) 39 = .ok (.iload_n 1, 1) := by decide +kernel
theorem dd_179_40 : decode (mB 179) 40 = .ok (.iconst (-1), 1) := by decide +kernel
theorem dd_179_41 : decode (mB 179) 41 = .ok (.iastore, 1) := by decide +kernel
theorem dd_179_42 : decode (mB 179) 42 = .ok (.aload_n 0, 1) := by decide +kernel
theorem dd_179_43 : decode (mB 179) 43 = .ok (.getfield 123, 3) := by decide +kernel
theorem dd_179_46 : decode (mB 179) 46 = .ok (.iload_n 1, 1) := by decide +kernel
theorem dd_179_47 : decode (mB 179) 47 = .ok (.iconst 0, 1) := by decide +kernel
theorem dd_179_48 : decode (mB 179) 48 = .ok (.iastore, 1) := by decide +kernel
theorem dd_179_49 : decode (mB 179) 49 = .ok (.return_, 1) := by decide +kernel
theorem dd_180_0 : decode (mB 180) 0 = .ok (.aload_n 0, 1) := by decide +kernel
theorem dd_180_1 : decode (mB 180) 1 = .ok (.iload_n 1, 1) := by decide +kernel
theorem dd_180_2 : decode (mB 180) 2 = .ok (.invokevirtual 394, 3) := by decide +kernel
theorem dd_180_5 : decode (mB 180) 5 = .ok (.ifCond .eq 6, 3) := by decide +kernel
theorem dd_180_8 : decode (mB 180) 8 = .ok (.ldc 196, 2) := by decide +kernel
theorem dd_180_10 : decode (mB 180) 10 = .ok (.ireturn, 1) := by decide +kernel
theorem dd_180_11 : decode (mB 180) 11 = .ok (.aload_n 0, 1) := by decide +kernel
theorem dd_180_12 : decode (mB 180) 12 = .ok (.iload_n 1, 1) := by decide +kernel
theorem dd_180_13 : decode (mB 180) 13 = .ok (.invokevirtual 375, 3) := by decide +kernel
theorem dd_180_16 : decode (mB 180) 16 = .ok (.ifCond .ne 7, 3) := by decide +kernel
theorem dd_180_19 : decode (mB 180) 19 = .ok (.ldc_w 389, 3) := by decide +kernel
theorem dd_180_22 : decode (mB 180) 22 = .ok (.ireturn, 1) := by decide +kernel
theorem dd_180_23 : decode (mB 180) 23 = .ok (.aload_n 0, 1) := by decide +kernel
theorem dd_180_24 : decode (mB 180) 24 = .ok (.iload_n 1, 1) := by decide +kernel
theorem dd_180_25 : decode (mB 180) 25 = .ok (.invokevirtual 397, 3) := by decide +kernel
theorem dd_180_28 : decode (mB 180) 28 = .ok (.aload_n 0, 1) := by decide +kernel
theorem dd_180_29 : decode (mB 180) 29 = .ok (.getfield 123, 3) := by decide +kernel
theorem dd_180_32 : decode (mB 180) 32 = .ok (.iload_n 1, 1) := by decide +kernel
theorem dd_180_33 : decode (mB 180) 33 = .ok (.iconst 0, 1) := by decide +kernel
theorem dd_180_34 : decode (mB 180) 34 = .ok (.iastore, 1) := by decide +kernel
theorem dd_180_35 : decode (mB 180) 35 = .ok (.aload_n 0, 1) := by decide +kernel
theorem dd_180_36 : decode (mB 180) 36 = .ok (.getfield 105, 3) := by decide +kernel
theorem dd_180_39 : decode (mB 180) 39 = .ok (.iload_n 1, 1) := by decide +kernel
theorem dd_180_40 : decode (mB 180) 40 = .ok (.iconst 5, 1) := by decide +kernel
theorem dd_180_41 : decode (mB 180) 41 = .ok (.iastore, 1) := by decide +kernel
theorem dd_180_42 : decode (mB 180) 42 = .ok (.aload_n 0, 1) := by decide +kernel
theorem dd_180_43 : decode (mB 180) 43 = .ok (.getfield 111, 3) := by decide +kernel
theorem dd_180_46 : decode (mB 180) 46 = .ok (.iload_n 1, 1) := by decide +kernel
theorem dd_180_47 : decode (mB 180) 47 = .ok (.aload_n 0, 1) := by decide +kernel
theorem dd_180_48 : decode (mB 180) 48 = .ok (.getfield 378, 3) := by decide +kernel
theorem dd_180_51 : decode (mB 180) 51 = .ok (.iastore, 1) := by decide +kernel
theorem dd_180_52 : decode (mB 180) 52 = .ok (.iconst 1, 1) := by decide +kernel
theorem dd_180_53 : decode (mB 180) 53 = .ok (.ireturn, 1) := by decide +kernel
theorem dd_181_0 : decode (mB 181) 0 = .ok (.iload_n 1, 1) := by decide +kernel
theorem dd_181_1 : decode (mB 181) 1 = .ok (.i2l, 1) := by decide +kernel
theorem dd_181_2 : decode (mB 181) 2 = .ok (.lconst 0, 1) := by decide +kernel
theorem dd_181_3 : decode (mB 181) 3 = .ok (.aload_n 0, 1) := by decide +kernel
theorem dd_181_4 : decode (mB 181) 4 = .ok (.getfield 372, 3) := by decide +kernel
theorem dd_181_7 : decode (mB 181) 7 = .ok (.iconst 1, 1) := by decide +kernel
theorem dd_181_8 : decode (mB 181) 8 = .ok (.isub, 1) := by decide +kernel
theorem dd_181_9 : decode (mB 181) 9 = .ok (.i2l, 1) := by decide +kernel
theorem dd_181_10 : decode (mB 181) 10 = .ok (.invokestatic 183, 3) := by decide +kernel
theorem dd_181_13 : decode (mB 181) 13 = .ok (.ifCond .ne 7, 3) := by decide +kernel
theorem dd_181_16 : decode (mB 181) 16 = .ok (.iconst 1, 1) := by decide +kernel
theorem dd_181_17 : decode (mB 181) 17 = .ok (.goto 4, 3) := by decide +kernel
theorem dd_181_20 : decode (mB 181) 20 = .ok (.iconst 0, 1) := by decide +kernel
theorem dd_181_21 : decode (mB 181) 21 = .ok (.ireturn, 1) := by decide +kernel
theorem dd_182_0 : decode (mB 182) 0 = .ok (.iconst 0, 1) := by decide +kernel
theorem dd_182_1 : decode (mB 182) 1 = .ok (.istore_n 2, 1) := by decide +kernel
theorem dd_182_2 : decode (mB 182) 2 = .ok (.iload_n 2, 1) := by decide +kernel
theorem dd_182_3 : decode (mB 182) 3 = .ok (.bipush 20, 2) := by decide +kernel
theorem dd_182_5 : decode (mB 182) 5 = .ok (.if_icmp .ge 35, 3) := by decide +kernel
theorem dd_182_8 : decode (mB 182) 8 = .ok (.aload_n 0, 1) := by decide +kernel
theorem dd_182_9 : decode (mB 182) 9 = .ok (.getfield 129, 3) := by decide +kernel
theorem dd_182_12 : decode (mB 182) 12 = .ok (.iload_n 2, 1) := by decide +kernel
theorem dd_182_13 : decode (mB 182) 13 = .ok (.aload_n 0, 1) := by decide +kernel
theorem dd_182_14 : decode (mB 182) 14 = .ok (.getfield 129, 3) := by decide +kernel
theorem dd_182_17 : decode (mB 182) 17 = .ok (.iload_n 2, 1) := by decide +kernel
theorem dd_182_18 : decode (mB 182) 18 = .ok (.iaload, 1) := by decide +kernel
theorem dd_182_19 : decode (mB 182) 19 = .ok (.iload_n 1, 1) := by decide +kernel
theorem dd_182_20 : decode (mB 182) 20 = .ok (.if_icmp .ne 7, 3) := by decide +kernel
theorem dd_182_23 : decode (mB 182) 23 = .ok (.iconst (-1), 1) := by decide +kernel
theorem dd_182_24 : decode (mB 182) 24 = .ok (.goto 9, 3) := by decide +kernel
theorem dd_182_27 : decode (mB 182) 27 = .ok (.aload_n 0, 1) := by decide +kernel
theorem dd_182_28 : decode (mB 182) 28 = .ok (.getfield 129, 3) := by decide +kernel
theorem dd_182_31 : decode (mB 182) 31 = .ok (.iload_n 2, 1) := by decide +kernel
theorem dd_182_32 : decode (mB 182) 32 = .ok (.iaload, 1) := by decide +kernel
theorem dd_182_33 : decode (mB 182) 33 = .ok (.iastore, 1) := by decide +kernel
theorem dd_182_34 : decode (mB 182) 34 = .ok (.iinc 2 1, 3) := by decide +kernel
theorem dd_182_37 : decode (mB 182) 37 = .ok (.goto (-35), 3) := by decide +kernel
theorem dd_182_40 : decode (mB 182) 40 = .ok (.aload_n 0, 1) := by decide +kernel
theorem dd_182_41 : decode (mB 182) 41 = .ok (.getfield 117, 3) := by decide +kernel
theorem dd_182_44 : decode (mB 182) 44 = .ok (.iload_n 1, 1) := by decide +kernel
theorem dd_182_45 : decode (mB 182) 45 = .ok (.iconst 0, 1) := by decide +kernel
theorem dd_182_46 : decode (mB 182) 46 = .ok (.iastore, 1) := by decide +kernel
theorem dd_182_47 : decode (mB 182) 47 = .ok (.return_, 1) := by decide +kernel
theorem dd_183_0 : decode (mB 183) 0 = .ok (.aload_n 0, 1) := by decide +kernel
theorem dd_183_1 : decode (mB 183) 1 = .ok (.iload_n 1, 1) := by decide +kernel
theorem dd_183_2 : decode (mB 183) 2 = .ok (.invokevirtual 394, 3) := by decide +kernel
theorem dd_183_5 : decode (mB 183) 5 = .ok (.ifCond .eq 6, 3) := by decide +kernel
theorem dd_183_8 : decode (mB 183) 8 = .ok (.ldc 196, 2) := by decide +kernel
theorem dd_183_10 : decode (mB 183) 10 = .ok (.ireturn, 1) := by decide +kernel
theorem dd_183_11 : decode (mB 183) 11 = .ok (.aload_n 0, 1) := by decide +kernel
theorem dd_183_12 : decode (mB 183) 12 = .ok (.getfield 105, 3) := by decide +kernel
theorem dd_183_15 : decode (mB 183) 15 = .ok (.iload_n 1, 1) := by decide +kernel
theorem dd_183_16 : decode (mB 183) 16 = .ok (.iaload, 1) := by decide +kernel
theorem dd_183_17 : decode (mB 183) 17 = .ok (.iconst 4, 1) := by decide +kernel
theorem dd_183_18 : decode (mB 183) 18 = .ok (.if_icmp .ne 22, 3) := by decide +kernel
theorem dd_183_21 : decode (mB 183) 21 = .ok (.aload_n 0, 1) := by decide +kernel
theorem dd_183_22 : decode (mB 183) 22 = .ok (.getfield 102, 3) := by decide +kernel
theorem dd_183_25 : decode (mB 183) 25 = .ok (.iload_n 1, 1) := by decide +kernel
theorem dd_183_26 : decode (mB 183) 26 = .ok (.baload, 1) := by decide +kernel
theorem dd_183_27 : decode (mB 183) 27 = .ok (.ifCond .ne 13, 3) := by decide +kernel
theorem dd_183_30 : decode (mB 183) 30 = .ok (.aload_n 0, 1) := by decide +kernel
theorem dd_183_31 : decode (mB 183) 31 = .ok (.getfield 378, 3) := by decide +kernel
theorem dd_183_34 : decode (mB 183) 34 = .ok (.sipush 480, 3) := by decide +kernel
theorem dd_183_37 : decode (mB 183) 37 = .ok (.if_icmp .ne 7, 3) := by decide +kernel
theorem dd_183_40 : decode (mB 183) 40 = .ok (.ldc_w 389, 3) := by decide +kernel
theorem dd_183_43 : decode (mB 183) 43 = .ok (.ireturn, 1) := by decide +kernel
theorem dd_183_44 : decode (mB 183) 44 = .ok (.aload_n 0, 1) := by decide +kernel
theorem dd_183_45 : decode (mB 183) 45 = .ok (.getfield 372, 3) := by decide +kernel
theorem dd_183_48 : decode (mB 183) 48 = .ok (.bipush 40, 2) := by decide +kernel
theorem dd_183_50 : decode (mB 183) 50 = .ok (.if_icmp .ne 6, 3) := by decide +kernel
theorem dd_183_53 : decode (mB 183) 53 = .ok (.ldc 201, 2) := by decide +kernel
theorem dd_183_55 : decode (mB 183) 55 = .ok (.ireturn, 1) := by decide +kernel
theorem dd_183_56 : decode (mB 183) 56 = .ok (.aload_n 0, 1) := by decide +kernel
theorem dd_183_57 : decode (mB 183) 57 = .ok (.getfield 102, 3) := by decide +kernel
theorem dd_183_60 : decode (mB 183) 60 = .ok (.iload_n 1, 1) := by decide +kernel
theorem dd_183_61 : decode (mB 183) 61 = .ok (.iconst 1, 1) := by decide +kernel
theorem dd_183_62 : decode (mB 183) 62 = .ok (.bastore, 1) := by decide +kernel
theorem dd_183_63 : decode (mB 183) 63 = .ok (.aload_n 0, 1) := by decide +kernel
theorem dd_183_64 : decode (mB 183) 64 = .ok (.aload_n 0, 1) := by decide +kernel
theorem dd_183_65 : decode (mB 183) 65 = .ok (.getfield 81, 3) := by decide +kernel
theorem dd_183_68 : decode (mB 183) 68 = .ok (.iload_n 1, 1) := by decide +kernel
theorem dd_183_69 : decode (mB 183) 69 = .ok (.iaload, 1) := by decide +kernel
theorem dd_183_70 : decode (mB 183) 70 = .ok (.aload_n 0, 1) := by decide +kernel
theorem dd_183_71 : decode (mB 183) 71 = .ok (.getfield 84, 3) := by decide +kernel
theorem dd_183_74 : decode (mB 183) 74 = .ok (.iload_n 1, 1) := by decide +kernel
theorem dd_183_75 : decode (mB 183) 75 = .ok (.iaload, 1) := by decide +kernel
theorem dd_183_76 : decode (mB 183) 76 = .ok (.aload_n 0, 1) := by decide +kernel
theorem dd_183_77 : decode (mB 183) 77 = .ok (.getfield 87, 3) := by decide +kernel
theorem dd_183_80 : decode (mB 183) 80 = .ok (.iload_n 1, 1) := by decide +kernel
theorem dd_183_81 : decode (mB 183) 81 = .ok (.iaload, 1) := by decide +kernel
theorem dd_183_82 : decode (mB 183) 82 = .ok (.aload_n 0, 1) := by decide +kernel
theorem dd_183_83 : decode (mB 183) 83 = .ok (.getfield 111, 3) := by decide +kernel
theorem dd_183_86 : decode (mB 183) 86 = .ok (.iload_n 1, 1) := by decide +kernel
theorem dd_183_87 : decode (mB 183) 87 = .ok (.iaload, 1) := by decide +kernel
theorem dd_183_88 : decode (mB 183) 88 = .ok (.aload_n 0, 1) := by decide +kernel
theorem dd_183_89 : decode (mB 183) 89 = .ok (.getfield 108, 3) := by decide +kernel
theorem dd_183_92 : decode (mB 183) 92 = .ok (.iload_n 1, 1) := by decide +kernel
theorem dd_183_93 : decode (mB 183) 93 = .ok (.iaload, 1) := by decide +kernel
theorem dd_183_94 : decode (mB 183) 94 = .ok (.isub, 1) := by decide +kernel
theorem dd_183_95 : decode (mB 183) 95 = .ok (.isub, 1) := by decide +kernel
theorem dd_183_96 : decode (mB 183) 96 = .ok (.iconst 0, 1) := by decide +kernel
theorem dd_183_97 : decode (mB 183) 97 = .ok (.iconst (-1), 1) := by decide +kernel
theorem dd_183_98 : decode (mB 183) 98 = .ok (.invokevirtual 390, 3) := by decide +kernel
theorem dd_183_101 : decode (mB 183) 101 = .ok (.ireturn, 1) := by decide +kernel
theorem dd_184_0 : decode (mB 184) 0 = .ok (.iload_n 1, 1) := by decide +kernel
theorem dd_184_1 : decode (mB 184) 1 = .ok (.i2l, 1) := by decide +kernel
theorem dd_184_2 : decode (mB 184) 2 = .ok (.lconst 0, 1) := by decide +kernel
theorem dd_184_3 : decode (mB 184) 3 = .ok (.ldc2_w 467, 3) := by decide +kernel
theorem dd_184_6 : decode (mB 184) 6 = .ok (.invokestatic 183, 3) := by decide +kernel
theorem dd_184_9 : decode (mB 184) 9 = .ok (.ifCond .ne 6, 3) := by decide +kernel
theorem dd_184_12 : decode (mB 184) 12 = .ok (.ldc 200, 2) := by decide +kernel
theorem dd_184_14 : decode (mB 184) 14 = .ok (.ireturn, 1) := by decide +kernel
theorem dd_184_15 : decode (mB 184) 15 = .ok (.aload_n 0, 1) := by decide +kernel
theorem dd_184_16 : decode (mB 184) 16 = .ok (.getfield 378, 3) := by decide +kernel
theorem dd_184_19 : decode (mB 184) 19 = .ok (.iload_n 1, 1) := by decide +kernel
theorem dd_184_20 : decode (mB 184) 20 = .ok (.iadd, 1) := by decide +kernel
theorem dd_184_21 : decode (mB 184) 21 = .ok (.sipush 480, 3) := by decide +kernel
theorem dd_184_24 : decode (mB 184) 24 = .ok (.if_icmp .le 7, 3) := by decide +kernel
theorem dd_184_27 : decode (mB 184) 27 = .ok (.ldc_w 389, 3) := by decide +kernel
theorem dd_184_30 : decode (mB 184) 30 = .ok (.ireturn, 1) := by decide +kernel
theorem dd_184_31 : decode (mB 184) 31 = .ok (.iconst 0, 1) := by decide +kernel
theorem dd_184_32 : decode (mB 184) 32 = .ok (.istore_n 2, 1) := by decide +kernel
theorem dd_184_33 : decode (mB 184) 33 = .ok (.aload_n 0, 1) := by decide +kernel
theorem dd_184_34 : decode (mB 184) 34 = .ok (.iconst 0, 1) := by decide +kernel
theorem dd_184_35 : decode (mB 184) 35 = .ok (.putfield 340, 3) := by decide +kernel
theorem dd_184_38 : decode (mB 184) 38 = .ok (.iconst 0, 1) := by decide +kernel
theorem dd_184_39 : decode (mB 184) 39 = .ok (.istore_n 3, 1) := by decide +kernel
theorem dd_184_40 : decode (mB 184) 40 = .ok (.iload_n 3, 1) := by decide +kernel
theorem dd_184_41 : decode (mB 184) 41 = .ok (.iload_n 1, 1) := by decide +kernel
theorem dd_184_42 : decode (mB 184) 42 = .ok (.if_icmp .ge 30, 3) := by decide +kernel
theorem dd_184_45 : decode (mB 184) 45 = .ok (.iload_n 2, 1) := by decide +kernel
theorem dd_184_46 : decode (mB 184) 46 = .ok (.aload_n 0, 1) := by decide +kernel
theorem dd_184_47 : decode (mB 184) 47 = .ok (.aload_n 0, 1) := by decide +kernel
theorem dd_184_48 : decode (mB 184) 48 = .ok (.getfield 378, 3) := by decide +kernel
theorem dd_184_51 : decode (mB 184) 51 = .ok (.invokevirtual 469, 3) := by decide +kernel
theorem dd_184_54 : decode (mB 184) 54 = .ok (.iadd, 1) := by decide +kernel
theorem dd_184_55 : decode (mB 184) 55 = .ok (.istore_n 2, 1) := by decide +kernel
theorem dd_184_56 : decode (mB 184) 56 = .ok (.aload_n 0, 1) := by decide +kernel
theorem dd_184_57 : decode (mB 184) 57 = .ok (.dup, 1) := by decide +kernel
theorem dd_184_58 : decode (mB 184) 58 = .ok (.getfield 378, 3) := by decide +kernel
theorem dd_184_61 : decode (mB 184) 61 = .ok (.iconst 1, 1) := by decide +kernel
theorem dd_184_62 : decode (mB 184) 62 = .ok (.iadd, 1) := by decide +kernel
theorem dd_184_63 : decode (mB 184) 63 = .ok (.putfield 378, 3) := by decide +kernel
theorem dd_184_66 : decode (mB 184) 66 = .ok (.iinc 3 1, 3) := by decide +kernel
theorem dd_184_69 : decode (mB 184) 69 = .ok (.goto (-29), 3) := by decide +kernel
theorem dd_184_72 : decode (mB 184) 72 = .ok (.iload_n 2, 1) := by decide +kernel
theorem dd_184_73 : decode (mB 184) 73 = .ok (.ireturn, 1) := by decide +kernel
theorem dd_185_0 : decode (mB 185) 0 = .ok (.aload_n 0, 1) := by decide +kernel
theorem dd_185_1 : decode (mB 185) 1 = .ok (.invokevirtual 256, 3) := by decide +kernel
theorem dd_185_4 : decode (mB 185) 4 = .ok (.aload_n 0, 1) := by decide +kernel
theorem dd_185_5 : decode (mB 185) 5 = .ok (.iload_n 1, 1) := by decide +kernel
theorem dd_185_6 : decode (mB 185) 6 = .ok (.invokevirtual 355, 3) := by decide +kernel
theorem dd_185_9 : decode (mB 185) 9 = .ok (.iconst 0, 1) := by decide +kernel
theorem dd_185_10 : decode (mB 185) 10 = .ok (.istore_n 2, 1) := by decide +kernel
theorem dd_185_11 : decode (mB 185) 11 = .ok (.iload_n 2, 1) := by decide +kernel
theorem dd_185_12 : decode (mB 185) 12 = .ok (.aload_n 0, 1) := by decide +kernel
theorem dd_185_13 : decode (mB 185) 13 = .ok (.getfield 372, 3) := by decide +kernel
theorem dd_185_16 : decode (mB 185) 16 = .ok (.if_icmp .ge 20, 3) := by decide +kernel
theorem dd_185_19 : decode (mB 185) 19 = .ok (.aload_n 0, 1) := by decide +kernel
theorem dd_185_20 : decode (mB 185) 20 = .ok (.getfield 147, 3) := by decide +kernel
theorem dd_185_23 : decode (mB 185) 23 = .ok (.iload_n 2, 1) := by decide +kernel
theorem dd_185_24 : decode (mB 185) 24 = .ok (.aload_n 0, 1) := by decide +kernel
theorem dd_185_25 : decode (mB 185) 25 = .ok (.iload_n 2, 1) := by decide +kernel
theorem dd_185_26 : decode (mB 185) 26 = .ok (.invokevirtual 449, 3) := by decide +kernel
theorem dd_185_29 : decode (mB 185) 29 = .ok (.iastore, 1) := by decide +kernel
theorem dd_185_30 : decode (mB 185) 30 = .ok (.iinc 2 1, 3) := by decide +kernel
theorem dd_185_33 : decode (mB 185) 33 = .ok (.goto (-22), 3) := by decide +kernel
theorem dd_185_36 : decode (mB 185) 36 = .ok (.aload_n 0, 1) := by decide +kernel
theorem dd_185_37 : decode (mB 185) 37 = .ok (.iload_n 1, 1) := by decide +kernel
theorem dd_185_38 : decode (mB 185) 38 = .ok (.invokevirtual 452, 3) := by decide +kernel
theorem dd_185_41 : decode (mB 185) 41 = .ok (.aload_n 0, 1) := by decide +kernel
theorem dd_185_42 : decode (mB 185) 42 = .ok (.iload_n 1, 1) := by decide +kernel
theorem dd_185_43 : decode (mB 185) 43 = .ok (.invokevirtual 455, 3) := by decide +kernel
theorem dd_185_46 : decode (mB 185) 46 = .ok (.aload_n 0, 1) := by decide +kernel
theorem dd_185_47 : decode (mB 185) 47 = .ok (.invokevirtual 458, 3) := by decide +kernel
theorem dd_185_50 : decode (mB 185) 50 = .ok (.aload_n 0, 1) := by decide +kernel
theorem dd_185_51 : decode (mB 185) 51 = .ok (.iload_n 1, 1) := by decide +kernel
theorem dd_185_52 : decode (mB 185) 52 = .ok (.invokevirtual 461, 3) := by decide +kernel
theorem dd_185_55 : decode (mB 185) 55 = .ok (.istore_n 2, 1) := by decide +kernel
theorem dd_185_56 : decode (mB 185) 56 = .ok (.aload_n 0, 1) := by decide +kernel
theorem dd_185_57 : decode (mB 185) 57 = .ok (.iload_n 1, 1) := by decide +kernel
theorem dd_185_58 : decode (mB 185) 58 = .ok (.invokevirtual 464, 3) := by decide +kernel
theorem dd_185_61 : decode (mB 185) 61 = .ok (.iload_n 2, 1) := by decide +kernel
theorem dd_185_62 : decode (mB 185) 62 = .ok (.ireturn, 1) := by decide +kernel
theorem dd_186_0 : decode (mB 186) 0 = .ok (.aload_n 0, 1) := by decide +kernel
theorem dd_186_1 : decode (mB 186) 1 = .ok (.aload_n 0, 1) := by decide +kernel
theorem dd_186_2 : decode (mB 186) 2 = .ok (.getfield 81, 3) := by decide +kernel
theorem dd_186_5 : decode (mB 186) 5 = .ok (.iload_n 1, 1) := by decide +kernel
theorem dd_186_6 : decode (mB 186) 6 = .ok (.iaload, 1) := by decide +kernel
theorem dd_186_7 : decode (mB 186) 7 = .ok (.aload_n 0, 1) := by decide +kernel
theorem dd_186_8 : decode (mB 186) 8 = .ok (.getfield 84, 3) := by decide +kernel
theorem dd_186_11 : decode (mB 186) 11 = .ok (.iload_n 1, 1) := by decide +kernel
theorem dd_186_12 : decode (mB 186) 12 = .ok (.iaload, 1) := by decide +kernel
theorem dd_186_13 : decode (mB 186) 13 = .ok (.invokevirtual 259, 3) := by decide +kernel
theorem dd_186_16 : decode (mB 186) 16 = .ok (.istore_n 2, 1) := by decide +kernel
theorem dd_186_17 : decode (mB 186) 17 = .ok (.iload_n 2, 1) := by decide +kernel
theorem dd_186_18 : decode (mB 186) 18 = .ok (.aload_n 0, 1) := by decide +kernel
theorem dd_186_19 : decode (mB 186) 19 = .ok (.aload_n 0, 1) := by decide +kernel
theorem dd_186_20 : decode (mB 186) 20 = .ok (.getfield 81, 3) := by decide +kernel
theorem dd_186_23 : decode (mB 186) 23 = .ok (.iload_n 1, 1) := by decide +kernel
theorem dd_186_24 : decode (mB 186) 24 = .ok (.iaload, 1) := by decide +kernel
theorem dd_186_25 : decode (mB 186) 25 = .ok (.aload_n 0, 1) := by decide +kernel
theorem dd_186_26 : decode (mB 186) 26 = .ok (.getfield 84, 3) := by decide +kernel
theorem dd_186_29 : decode (mB 186) 29 = .ok (.iload_n 1, 1) := by decide +kernel
theorem dd_186_30 : decode (mB 186) 30 = .ok (.iaload, 1) := by decide +kernel
theorem dd_186_31 : decode (mB 186) 31 = .ok (.aload_n 0, 1) := by decide +kernel
theorem dd_186_32 : decode (mB 186) 32 = .ok (.getfield 78, 3) := by decide +kernel
theorem dd_186_35 : decode (mB 186) 35 = .ok (.iconst 1, 1) := by decide +kernel
theorem dd_186_36 : decode (mB 186) 36 = .ok (.iaload, 1) := by decide +kernel
theorem dd_186_37 : decode (mB 186) 37 = .ok (.invokevirtual 262, 3) := by decide +kernel
theorem dd_186_40 : decode (mB 186) 40 = .ok (.if_icmp .ge 12, 3) := by decide +kernel
theorem dd_186_43 : decode (mB 186) 43 = .ok (.aload_n 0, 1) := by decide +kernel
theorem dd_186_44 : decode (mB 186) 44 = .ok (.getfield 40, 3) := by decide +kernel
theorem dd_186_47 : decode (mB 186) 47 = .ok (.iload_n 2, 1) := by decide +kernel
theorem dd_186_48 : decode (mB 186) 48 = .ok (.iaload, 1) := by decide +kernel
theorem dd_186_49 : decode (mB 186) 49 = .ok (.goto 4, 3) := by decide +kernel
theorem dd_186_52 : decode (mB 186) 52 = .ok (.iconst 0, 1) := by decide +kernel
theorem dd_186_53 : decode (mB 186) 53 = .ok (.ireturn, 1) := by decide +kernel
theorem dd_187_0 : decode (mB 187) 0 = .ok (.iconst 0, 1) := by decide +kernel
theorem dd_187_1 : decode (mB 187) 1 = .ok (.istore_n 2, 1) := by decide +kernel
theorem dd_187_2 : decode (mB 187) 2 = .ok (.iload_n 2, 1) := by decide +kernel
theorem dd_187_3 : decode (mB 187) 3 = .ok (.aload_n 0, 1) := by decide +kernel
theorem dd_187_4 : decode (mB 187) 4 = .ok (.getfield 372, 3) := by decide +kernel
theorem dd_187_7 : decode (mB 187) 7 = .ok (.if_icmp .ge 55, 3) := by decide +kernel
theorem dd_187_10 : decode (mB 187) 10 = .ok (.aload_n 0, 1) := by decide +kernel
theorem dd_187_11 : decode (mB 187) 11 = .ok (.getfield 105, 3) := by decide +kernel
theorem dd_187_14 : decode (mB 187) 14 = .ok (.iload_n 2, 1) := by decide +kernel
theorem dd_187_15 : decode (mB 187) 15 = .ok (.iaload, 1) := by decide +kernel
theorem dd_187_16 : decode (mB 187) 16 = .ok (.iconst 2, 1) := by decide +kernel
theorem dd_187_17 : decode (mB 187) 17 = .ok (.if_icmp .ne 39, 3) := by decide +kernel
theorem dd_187_20 : decode (mB 187) 20 = .ok (.iload_n 1, 1) := by decide +kernel
theorem dd_187_21 : decode (mB 187) 21 = .ok (.aload_n 0, 1) := by decide +kernel
theorem dd_187_22 : decode (mB 187) 22 = .ok (.getfield 108, 3) := by decide +kernel
theorem dd_187_25 : decode (mB 187) 25 = .ok (.iload_n 2, 1) := by decide +kernel
theorem dd_187_26 : decode (mB 187) 26 = .ok (.iaload, 1) := by decide +kernel
theorem dd_187_27 : decode (mB 187) 27 = .ok (.aload_n 0, 1) := by decide +kernel
theorem dd_187_28 : decode (mB 187) 28 = .ok (.getfield 87, 3) := by decide +kernel
theorem dd_187_31 : decode (mB 187) 31 = .ok (.iload_n 2, 1) := by decide +kernel
theorem dd_187_32 : decode (mB 187) 32 = .ok (.iaload, 1) := by decide +kernel
theorem dd_187_33 : decode (mB 187) 33 = .ok (.iadd, 1) := by decide +kernel
theorem dd_187_34 : decode (mB 187) 34 = .ok (.if_icmp .lt 22, 3) := by decide +kernel
theorem dd_187_37 : decode (mB 187) 37 = .ok (.aload_n 0, 1) := by decide +kernel
theorem dd_187_38 : decode (mB 187) 38 = .ok (.iload_n 2, 1) := by decide +kernel
theorem dd_187_39 : decode (mB 187) 39 = .ok (.invokevirtual 397, 3) := by decide +kernel
theorem dd_187_42 : decode (mB 187) 42 = .ok (.aload_n 0, 1) := by decide +kernel
theorem dd_187_43 : decode (mB 187) 43 = .ok (.getfield 105, 3) := by decide +kernel
theorem dd_187_46 : decode (mB 187) 46 = .ok (.iload_n 2, 1) := by decide +kernel
theorem dd_187_47 : decode (mB 187) 47 = .ok (.iconst 3, 1) := by decide +kernel
theorem dd_187_48 : decode (mB 187) 48 = .ok (.iastore, 1) := by decide +kernel
theorem dd_187_49 : decode (mB 187) 49 = .ok (.aload_n 0, 1) := by decide +kernel
theorem dd_187_50 : decode (mB 187) 50 = .ok (.getfield 111, 3) := by decide +kernel
theorem dd_187_53 : decode (mB 187) 53 = .ok (.iload_n 2, 1) := by decide +kernel
theorem dd_187_54 : decode (mB 187) 54 = .ok (.iload_n 1, 1) := by decide +kernel
theorem dd_187_55 : decode (mB 187) 55 = .ok (.iastore, 1) := by decide +kernel
theorem dd_187_56 : decode (mB 187) 56 = .ok (.iinc 2 1, 3) := by decide +kernel
theorem dd_187_59 : decode (mB 187) 59 = .ok (.goto (-57), 3) := by decide +kernel
theorem dd_187_62 : decode (mB 187) 62 = .ok (.return_, 1) := by decide +kernel
theorem dd_188_0 : decode (mB 188) 0 = .ok (.iconst 0, 1) := by decide +kernel
theorem dd_188_1 : decode (mB 188) 1 = .ok (.istore_n 2, 1) := by decide +kernel
theorem dd_188_2 : decode (mB 188) 2 = .ok (.iload_n 2, 1) := by decide +kernel
theorem dd_188_3 : decode (mB 188) 3 = .ok (.aload_n 0, 1) := by decide +kernel
theorem dd_188_4 : decode (mB 188) 4 = .ok (.getfield 187, 3) := by decide +kernel
theorem dd_188_7 : decode (mB 188) 7 = .ok (.if_icmp .ge 66, 3) := by decide +kernel
theorem dd_188_10 : decode (mB 188) 10 = .ok (.aload_n 0, 1) := by decide +kernel
theorem dd_188_11 : decode (mB 188) 11 = .ok (.getfield 129, 3) := by decide +kernel
theorem dd_188_14 : decode (mB 188) 14 = .ok (.iload_n 2, 1) := by decide +kernel
theorem dd_188_15 : decode (mB 188) 15 = .ok (.iaload, 1) := by decide +kernel
theorem dd_188_16 : decode (mB 188) 16 = .ok (.istore_n 3, 1) := by decide +kernel
theorem dd_188_17 : decode (mB 188) 17 = .ok (.iload_n 3, 1) := by decide +kernel
theorem dd_188_18 : decode (mB 188) 18 = .ok (.ifCond .lt 49, 3) := by decide +kernel
theorem dd_188_21 : decode (mB 188) 21 = .ok (.aload_n 0, 1) := by decide +kernel
theorem dd_188_22 : decode (mB 188) 22 = .ok (.iload_n 2, 1) := by decide +kernel
theorem dd_188_23 : decode (mB 188) 23 = .ok (.iload_n 1, 1) := by decide +kernel
theorem dd_188_24 : decode (mB 188) 24 = .ok (.invokevirtual 400, 3) := by decide +kernel
theorem dd_188_27 : decode (mB 188) 27 = .ok (.ifCond .lt 40, 3) := by decide +kernel
theorem dd_188_30 : decode (mB 188) 30 = .ok (.aload_n 0, 1) := by decide +kernel
theorem dd_188_31 : decode (mB 188) 31 = .ok (.getfield 105, 3) := by decide +kernel
theorem dd_188_34 : decode (mB 188) 34 = .ok (.iload_n 3, 1) := by decide +kernel
theorem dd_188_35 : decode (mB 188) 35 = .ok (.iaload, 1) := by decide +kernel
theorem dd_188_36 : decode (mB 188) 36 = .ok (.iconst 2, 1) := by decide +kernel
theorem dd_188_37 : decode (mB 188) 37 = .ok (.if_icmp .ne 25, 3) := by decide +kernel
theorem dd_188_40 : decode (mB 188) 40 = .ok (.aload_n 0, 1) := by decide +kernel
theorem dd_188_41 : decode (mB 188) 41 = .ok (.iload_n 3, 1) := by decide +kernel
theorem dd_188_42 : decode (mB 188) 42 = .ok (.invokevirtual 397, 3) := by decide +kernel
theorem dd_188_45 : decode (mB 188) 45 = .ok (.aload_n 0, 1) := by decide +kernel
theorem dd_188_46 : decode (mB 188) 46 = .ok (.getfield 105, 3) := by decide +kernel
theorem dd_188_49 : decode (mB 188) 49 = .ok (.iload_n 3, 1) := by decide +kernel
theorem dd_188_50 : decode (mB 188) 50 = .ok (.iconst 4, 1) := by decide +kernel
theorem dd_188_51 : decode (mB 188) 51 = .ok (.iastore, 1) := by decide +kernel
theorem dd_188_52 : decode (mB 188) 52 = .ok (.aload_n 0, 1) := by decide +kernel
theorem dd_188_53 : decode (mB 188) 53 = .ok (.getfield 111, 3) := by decide +kernel
theorem dd_188_56 : decode (mB 188) 56 = .ok (.iload_n 3, 1) := by decide +kernel
theorem dd_188_57 : decode (mB 188) 57 = .ok (.iload_n 1, 1) := by decide +kernel
theorem dd_188_58 : decode (mB 188) 58 = .ok (.iastore, 1) := by decide +kernel
theorem dd_188_59 : decode (mB 188) 59 = .ok (.goto 8, 3) := by decide +kernel
theorem dd_188_62 : decode (mB 188) 62 = .ok (.aload_n 0, 1) := by decide +kernel
theorem dd_188_63 : decode (mB 188) 63 = .ok (.iload_n 3, 1) := by decide +kernel
theorem dd_188_64 : decode (mB 188) 64 = .ok (.invokevirtual 403, 3) := by decide +kernel
theorem dd_188_67 : decode (mB 188) 67 = .ok (.iinc 2 1, 3) := by decide +kernel
theorem dd_188_70 : decode (mB 188) 70 = .ok (.goto (-68), 3) := by decide +kernel
theorem dd_188_73 : decode (mB 188) 73 = .ok (.return_, 1) := by decide +kernel
theorem dd_189_0 : decode (mB 189) 0 = .ok (.iconst 0, 1) := by decide +kernel
theorem dd_189_1 : decode (mB 189) 1 = .ok (.istore_n 3, 1) := by decide +kernel
theorem dd_189_2 : decode (mB 189) 2 = .ok (.iload_n 3, 1) := by decide +kernel
theorem dd_189_3 : decode (mB 189) 3 = .ok (.aload_n 0, 1) := by decide +kernel
theorem dd_189_4 : decode (mB 189) 4 = .ok (.getfield 216, 3) := by decide +kernel
theorem dd_189_7 : decode (mB 189) 7 = .ok (.if_icmp .ge 48, 3) := by decide +kernel
theorem dd_189_10 : decode (mB 189) 10 = .ok (.aload_n 0, 1) := by decide +kernel
theorem dd_189_11 : decode (mB 189) 11 = .ok (.getfield 19, 3) := by decide +kernel
theorem dd_189_14 : decode (mB 189) 14 = .ok (.iload_n 3, 1) := by decide +kernel
theorem dd_189_15 : decode (mB 189) 15 = .ok (.iaload, 1) := by decide +kernel
theorem dd_189_16 : decode (mB 189) 16 = .ok (.iload_n 1, 1) := by decide +kernel
theorem dd_189_17 : decode (mB 189) 17 = .ok (.if_icmp .ne 32, 3) := by decide +kernel
theorem dd_189_20 : decode (mB 189) 20 = .ok (.iload_n 2, 1) := by decide +kernel
theorem dd_189_21 : decode (mB 189) 21 = .ok (.i2l, 1) := by decide +kernel
theorem dd_189_22 : decode (mB 189) 22 = .ok (.aload_n 0, 1) := by decide +kernel
theorem dd_189_23 : decode (mB 189) 23 = .ok (.getfield 25, 3) := by decide +kernel
theorem dd_189_26 : decode (mB 189) 26 = .ok (.iload_n 3, 1) := by decide +kernel
theorem dd_189_27 : decode (mB 189) 27 = .ok (.iaload, 1) := by decide +kernel
theorem dd_189_28 : decode (mB 189) 28 = .ok (.i2l, 1) := by decide +kernel
theorem dd_189_29 : decode (mB 189) 29 = .ok (.aload_n 0, 1) := by decide +kernel
theorem dd_189_30 : decode (mB 189) 30 = .ok (.getfield 28, 3) := by decide +kernel
theorem dd_189_33 : decode (mB 189) 33 = .ok (.iload_n 3, 1) := by decide +kernel
theorem dd_189_34 : decode (mB 189) 34 = .ok (.iaload, 1) := by decide +kernel
theorem dd_189_35 : decode (mB 189) 35 = .ok (.i2l, 1) := by decide +kernel
theorem dd_189_36 : decode (mB 189) 36 = .ok (.invokestatic 183, 3) := by decide +kernel
theorem dd_189_39 : decode (mB 189) 39 = .ok (.ifCond .eq 10, 3) := by decide +kernel
theorem dd_189_42 : decode (mB 189) 42 = .ok (.aload_n 0, 1) := by decide +kernel
theorem dd_189_43 : decode (mB 189) 43 = .ok (.getfield 22, 3) := by decide +kernel
theorem dd_189_46 : decode (mB 189) 46 = .ok (.iload_n 3, 1) := by decide +kernel
theorem dd_189_47 : decode (mB 189) 47 = .ok (.iaload, 1) := by decide +kernel
theorem dd_189_48 : decode (mB 189) 48 = .ok (.ireturn, 1) := by decide +kernel
theorem dd_189_49 : decode (mB 189) 49 = .ok (.iinc 3 1, 3) := by decide +kernel
theorem dd_189_52 : decode (mB 189) 52 = .ok (.goto (-50), 3) := by decide +kernel
theorem dd_189_55 : decode (mB 189) 55 = .ok (.iconst (-1), 1) := by decide +kernel
theorem dd_189_56 : decode (mB 189) 56 = .ok (.ireturn, 1) := by decide +kernel
theorem dd_190_0 : decode (mB 190) 0 = .ok (.aload_n 0, 1) := by decide +kernel
theorem dd_190_1 : decode (mB 190) 1 = .ok (.iload_n 1, 1) := by decide +kernel
theorem dd_190_2 : decode (mB 190) 2 = .ok (.invokevirtual 397, 3) := by decide +kernel
theorem dd_190_5 : decode (mB 190) 5 = .ok (.aload_n 0, 1) := by decide +kernel
theorem dd_190_6 : decode (mB 190) 6 = .ok (.getfield 123, 3) := by decide +kernel
theorem dd_190_9 : decode (mB 190) 9 = .ok (.iload_n 1, 1) := by decide +kernel
theorem dd_190_10 : decode (mB 190) 10 = .ok (.iconst 0, 1) := by decide +kernel
theorem dd_190_11 : decode (mB 190) 11 = .ok (.iastore, 1) := by decide +kernel
theorem dd_190_12 : decode (mB 190) 12 = .ok (.aload_n 0, 1) := by decide +kernel
theorem dd_190_13 : decode (mB 190) 13 = .ok (.getfield 105, 3) := by decide +kernel
theorem dd_190_16 : decode (mB 190) 16 = .ok (.iload_n 1, 1) := by decide +kernel
theorem dd_190_17 : decode (mB 190) 17 = .ok (.iconst 0, 1) := by decide +kernel
theorem dd_190_18 : decode (mB 190) 18 = .ok (.iastore, 1) := by decide +kernel
theorem dd_190_19 : decode (mB 190) 19 = .ok (.return_, 1) := by decide +kernel
theorem dd_191_0 : decode (mB 191) 0 = .ok (.iconst 1, 1) := by decide +kernel
theorem dd_191_1 : decode (mB 191) 1 = .ok (.istore_n 1, 1) := by decide +kernel
theorem dd_191_2 : decode (mB 191) 2 = .ok (.iload_n 1, 1) := by decide +kernel
theorem dd_191_3 : decode (mB 191) 3 = .ok (.ifCond .eq 80, 3) := by decide +kernel
theorem dd_191_6 : decode (mB 191) 6 = .ok (.iconst (-1), 1) := by decide +kernel
theorem dd_191_7 : decode (mB 191) 7 = .ok (.istore_n 2, 1) := by decide +kernel
theorem dd_191_8 : decode (mB 191) 8 = .ok (.iconst 0, 1) := by decide +kernel
theorem dd_191_9 : decode (mB 191) 9 = .ok (.istore_n 3, 1) := by decide +kernel
theorem dd_191_10 : decode (mB 191) 10 = .ok (.iload_n 3, 1) := by decide +kernel
theorem dd_191_11 : decode (mB 191) 11 = .ok (.aload_n 0, 1) := by decide +kernel
theorem dd_191_12 : decode (mB 191) 12 = .ok (.getfield 372, 3) := by decide +kernel
theorem dd_191_15 : decode (mB 191) 15 = .ok (.if_icmp .ge 36, 3) := by decide +kernel
theorem dd_191_18 : decode (mB 191) 18 = .ok (.aload_n 0, 1) := by decide +kernel
theorem dd_191_19 : decode (mB 191) 19 = .ok (.iload_n 3, 1) := by decide +kernel
theorem dd_191_20 : decode (mB 191) 20 = .ok (.invokevirtual 412, 3) := by decide +kernel
theorem dd_191_23 : decode (mB 191) 23 = .ok (.ifCond .eq 20, 3) := by decide +kernel
theorem dd_191_26 : decode (mB 191) 26 = .ok (.iload_n 2, 1) := by decide +kernel
theorem dd_191_27 : decode (mB 191) 27 = .ok (.ifCond .lt 12, 3) := by decide +kernel
theorem dd_191_30 : decode (mB 191) 30 = .ok (.aload_n 0, 1) := by decide +kernel
theorem dd_191_31 : decode (mB 191) 31 = .ok (.iload_n 2, 1) := by decide +kernel
theorem dd_191_32 : decode (mB 191) 32 = .ok (.iload_n 3, 1) := by decide +kernel
theorem dd_191_33 : decode (mB 191) 33 = .ok (.invokevirtual 415, 3) := by decide +kernel
theorem dd_191_36 : decode (mB 191) 36 = .ok (.ifCond .eq 7, 3) := by decide +kernel
theorem dd_191_39 : decode (mB 191) 39 = .ok (.iload_n 3, 1) := by decide +kernel
theorem dd_191_40 : decode (mB 191) 40 = .ok (.goto 4, 3) := by decide +kernel
theorem dd_191_43 : decode (mB 191) 43 = .ok (.iload_n 2, 1) := by decide +kernel
theorem dd_191_44 : decode (mB 191) 44 = .ok (.istore_n 2, 1) := by decide +kernel
theorem dd_191_45 : decode (mB 191) 45 = .ok (.iinc 3 1, 3) := by decide +kernel
theorem dd_191_48 : decode (mB 191) 48 = .ok (.goto (-38), 3) := by decide +kernel
theorem dd_191_51 : decode (mB 191) 51 = .ok (.iload_n 2, 1) := by decide +kernel
theorem dd_191_52 : decode (mB 191) 52 = .ok (.ifCond .lt 7, 3) := by decide +kernel
theorem dd_191_55 : decode (mB 191) 55 = .ok (.iconst 1, 1) := by decide +kernel
theorem dd_191_56 : decode (mB 191) 56 = .ok (.goto 4, 3) := by decide +kernel
theorem dd_191_59 : decode (mB 191) 59 = .ok (.iconst 0, 1) := by decide +kernel
theorem dd_191_60 : decode (mB 191) 60 = .ok (.istore_n 1, 1) := by decide +kernel
theorem dd_191_61 : decode (mB 191) 61 = .ok (.iload_n 1, 1) := by decide +kernel
theorem dd_191_62 : decode (mB 191) 62 = .ok (.ifCond .eq 18, 3) := by decide +kernel
theorem dd_191_65 : decode (mB 191) 65 = .ok (.aload_n 0, 1) := by decide +kernel
theorem dd_191_66 : decode (mB 191) 66 = .ok (.iload_n 2, 1) := by decide +kernel
theorem dd_191_67 : decode (mB 191) 67 = .ok (.invokevirtual 403, 3) := by decide +kernel
theorem dd_191_70 : decode (mB 191) 70 = .ok (.aload_n 0, 1) := by decide +kernel
theorem dd_191_71 : decode (mB 191) 71 = .ok (.dup, 1) := by decide +kernel
theorem dd_191_72 : decode (mB 191) 72 = .ok (.getfield 418, 3) := by decide +kernel
theorem dd_191_75 : decode (mB 191) 75 = .ok (.iconst 1, 1) := by decide +kernel
theorem dd_191_76 : decode (mB 191) 76 = .ok (.iadd, 1) := by decide +kernel
theorem dd_191_77 : decode (mB 191) 77 = .ok (.putfield 418, 3) := by decide +kernel
theorem dd_191_80 : decode (mB 191) 80 = .ok (.goto (-78), 3) := by decide +kernel
