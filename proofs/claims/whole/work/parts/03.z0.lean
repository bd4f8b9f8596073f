/-! what each byte says; written by wip/gen/gen28.py -/
theorem dd_2_0 : decode (mB 2) 0 = .ok (.aload_n 0, 1) := by decide +kernel
theorem dd_2_1 : decode (mB 2) 1 = .ok (.iconst 0, 1) := by decide +kernel
theorem dd_2_2 : decode (mB 2) 2 = .ok (.putfield 37, 3) := by decide +kernel
theorem dd_2_5 : decode (mB 2) 5 = .ok (.iconst 0, 1) := by decide +kernel
theorem dd_2_6 : decode (mB 2) 6 = .ok (.istore_n 1, 1) := by decide +kernel
theorem dd_2_7 : decode (mB 2) 7 = .ok (.iload_n 1, 1) := by decide +kernel
theorem dd_2_8 : decode (mB 2) 8 = .ok (.aload_n 0, 1) := by decide +kernel
theorem dd_2_9 : decode (mB 2) 9 = .ok (.getfield 43, 3) := by decide +kernel
theorem dd_2_12 : decode (mB 2) 12 = .ok (.arraylength, 1) := by decide +kernel
theorem dd_2_13 : decode (mB 2) 13 = .ok (.if_icmp .ge 16, 3) := by decide +kernel
theorem dd_2_16 : decode (mB 2) 16 = .ok (.aload_n 0, 1) := by decide +kernel
theorem dd_2_17 : decode (mB 2) 17 = .ok (.getfield 43, 3) := by decide +kernel
theorem dd_2_20 : decode (mB 2) 20 = .ok (.iload_n 1, 1) := by decide +kernel
theorem dd_2_21 : decode (mB 2) 21 = .ok (.iconst (-1), 1) := by decide +kernel
theorem dd_2_22 : decode (mB 2) 22 = .ok (.iastore, 1) := by decide +kernel
theorem dd_2_23 : decode (mB 2) 23 = .ok (.iinc 1 1, 3) := by decide +kernel
theorem dd_2_26 : decode (mB 2) 26 = .ok (.goto (-19), 3) := by decide +kernel
theorem dd_2_29 : decode (mB 2) 29 = .ok (.return_, 1) := by decide +kernel
theorem dd_11_0 : decode (mB 11) 0 = .ok (.iload_n 1, 1) := by decide +kernel
theorem dd_11_1 : decode (mB 11) 1 = .ok (.invokestatic 83, 3) := by decide +kernel
theorem dd_11_4 : decode (mB 11) 4 = .ok (.ifCond .eq 10, 3) := by decide +kernel
theorem dd_11_7 : decode (mB 11) 7 = .ok (.iload_n 2, 1) := by decide +kernel
theorem dd_11_8 : decode (mB 11) 8 = .ok (.invokestatic 83, 3) := by decide +kernel
theorem dd_11_11 : decode (mB 11) 11 = .ok (.ifCond .ne 6, 3) := by decide +kernel
theorem dd_11_14 : decode (mB 11) 14 = .ok (.ldc 87, 2) := by decide +kernel
theorem dd_11_16 : decode (mB 11) 16 = .ok (.ireturn, 1) := by decide +kernel
theorem dd_11_17 : decode (mB 11) 17 = .ok (.iload_n 1, 1) := by decide +kernel
theorem dd_11_18 : decode (mB 11) 18 = .ok (.iload_n 2, 1) := by decide +kernel
theorem dd_11_19 : decode (mB 11) 19 = .ok (.if_icmp .eq 14, 3) := by decide +kernel
theorem dd_11_22 : decode (mB 11) 22 = .ok (.iload_n 3, 1) := by decide +kernel
theorem dd_11_23 : decode (mB 11) 23 = .ok (.iconst 1, 1) := by decide +kernel
theorem dd_11_24 : decode (mB 11) 24 = .ok (.sipush 300, 3) := by decide +kernel
theorem dd_11_27 : decode (mB 11) 27 = .ok (.invokestatic 88, 3) := by decide +kernel
theorem dd_11_30 : decode (mB 11) 30 = .ok (.ifCond .ne 6, 3) := by decide +kernel
theorem dd_11_33 : decode (mB 11) 33 = .ok (.ldc 92, 2) := by decide +kernel
theorem dd_11_35 : decode (mB 11) 35 = .ok (.ireturn, 1) := by decide +kernel
theorem dd_11_36 : decode (mB 11) 36 = .ok (.aload_n 0, 1) := by decide +kernel
theorem dd_11_37 : decode (mB 11) 37 = .ok (.getfield 12, 3) := by decide +kernel
theorem dd_11_40 : decode (mB 11) 40 = .ok (.getfield 93, 3) := by decide +kernel
theorem dd_11_43 : decode (mB 11) 43 = .ok (.bipush 16, 2) := by decide +kernel
theorem dd_11_45 : decode (mB 11) 45 = .ok (.if_icmp .lt 6, 3) := by decide +kernel
theorem dd_11_48 : decode (mB 11) 48 = .ok (.ldc 96, 2) := by decide +kernel
theorem dd_11_50 : decode (mB 11) 50 = .ok (.ireturn, 1) := by decide +kernel
theorem dd_11_51 : decode (mB 11) 51 = .ok (.aload_n 0, 1) := by decide +kernel
theorem dd_11_52 : decode (mB 11) 52 = .ok (.invokevirtual 97, 3) := by decide +kernel
theorem dd_11_55 : decode (mB 11) 55 = .ok (.aload_n 0, 1) := by decide +kernel
theorem dd_11_56 : decode (mB 11) 56 = .ok (.getfield 12, 3) := by decide +kernel
theorem dd_11_59 : decode (mB 11) 59 = .ok (.aload_n 0, 1) := by decide +kernel
theorem dd_11_60 : decode (mB 11) 60 = .ok (.getfield 12, 3) := by decide +kernel
theorem dd_11_63 : decode (mB 11) 63 = .ok (.getfield 93, 3) := by decide +kernel
theorem dd_11_66 : decode (mB 11) 66 = .ok (.iload_n 1, 1) := by decide +kernel
theorem dd_11_67 : decode (mB 11) 67 = .ok (.iload_n 2, 1) := by decide +kernel
theorem dd_11_68 : decode (mB 11) 68 = .ok (.iload_n 3, 1) := by decide +kernel
theorem dd_11_69 : decode (mB 11) 69 = .ok (.invokevirtual 100, 3) := by decide +kernel
theorem dd_11_72 : decode (mB 11) 72 = .ok (.aload_n 0, 1) := by decide +kernel
theorem dd_11_73 : decode (mB 11) 73 = .ok (.getfield 12, 3) := by decide +kernel
theorem dd_11_76 : decode (mB 11) 76 = .ok (.dup, 1) := by decide +kernel
theorem dd_11_77 : decode (mB 11) 77 = .ok (.getfield 93, 3) := by decide +kernel
theorem dd_11_80 : decode (mB 11) 80 = .ok (.iconst 1, 1) := by decide +kernel
theorem dd_11_81 : decode (mB 11) 81 = .ok (.iadd, 1) := by decide +kernel
theorem dd_11_82 : decode (mB 11) 82 = .ok (.putfield 93, 3) := by decide +kernel
theorem dd_11_85 : decode (mB 11) 85 = .ok (.aload_n 0, 1) := by decide +kernel
theorem dd_11_86 : decode (mB 11) 86 = .ok (.getfield 55, 3) := by decide +kernel
theorem dd_11_89 : decode (mB 11) 89 = .ok (.aload_n 0, 1) := by decide +kernel
theorem dd_11_90 : decode (mB 11) 90 = .ok (.getfield 12, 3) := by decide +kernel
theorem dd_11_93 : decode (mB 11) 93 = .ok (.invokevirtual 104, 3) := by decide +kernel
theorem dd_11_96 : decode (mB 11) 96 = .ok (.putfield 108, 3) := by decide +kernel
theorem dd_11_99 : decode (mB 11) 99 = .ok (.aload_n 0, 1) := by decide +kernel
theorem dd_11_100 : decode (mB 11) 100 = .ok (.getfield 12, 3) := by decide +kernel
theorem dd_11_103 : decode (mB 11) 103 = .ok (.getfield 93, 3) := by decide +kernel
theorem dd_11_106 : decode (mB 11) 106 = .ok (.iconst 1, 1) := by decide +kernel
theorem dd_11_107 : decode (mB 11) 107 = .ok (.isub, 1) := by decide +kernel
theorem dd_11_108 : decode (mB 11) 108 = .ok (.ireturn, 1) := by decide +kernel
theorem dd_12_0 : decode (mB 12) 0 = .ok (.iload_n 0, 1) := by decide +kernel
theorem dd_12_1 : decode (mB 12) 1 = .ok (.iconst 0, 1) := by decide +kernel
theorem dd_12_2 : decode (mB 12) 2 = .ok (.bipush 7, 2) := by decide +kernel
theorem dd_12_4 : decode (mB 12) 4 = .ok (.invokestatic 88, 3) := by decide +kernel
theorem dd_12_7 : decode (mB 12) 7 = .ok (.ireturn, 1) := by decide +kernel
theorem dd_13_0 : decode (mB 13) 0 = .ok (.iload_n 0, 1) := by decide +kernel
theorem dd_13_1 : decode (mB 13) 1 = .ok (.iload_n 1, 1) := by decide +kernel
theorem dd_13_2 : decode (mB 13) 2 = .ok (.if_icmp .lt 12, 3) := by decide +kernel
theorem dd_13_5 : decode (mB 13) 5 = .ok (.iload_n 0, 1) := by decide +kernel
theorem dd_13_6 : decode (mB 13) 6 = .ok (.iload_n 2, 1) := by decide +kernel
theorem dd_13_7 : decode (mB 13) 7 = .ok (.if_icmp .gt 7, 3) := by decide +kernel
theorem dd_13_10 : decode (mB 13) 10 = .ok (.iconst 1, 1) := by decide +kernel
theorem dd_13_11 : decode (mB 13) 11 = .ok (.goto 4, 3) := by decide +kernel
theorem dd_13_14 : decode (mB 13) 14 = .ok (.iconst 0, 1) := by decide +kernel
theorem dd_13_15 : decode (mB 13) 15 = .ok (.ireturn, 1) := by decide +kernel
theorem dd_14_0 : decode (mB 14) 0 = .ok (.aload_n 0, 1) := by decide +kernel
theorem dd_14_1 : decode (mB 14) 1 = .ok (.getfield 73, 3) := by decide +kernel
theorem dd_14_4 : decode (mB 14) 4 = .ok (.iconst 0, 1) := by decide +kernel
theorem dd_14_5 : decode (mB 14) 5 = .ok (.putfield 356, 3) := by decide +kernel
theorem dd_14_8 : decode (mB 14) 8 = .ok (.aload_n 0, 1) := by decide +kernel
theorem dd_14_9 : decode (mB 14) 9 = .ok (.iconst 0, 1) := by decide +kernel
theorem dd_14_10 : decode (mB 14) 10 = .ok (.putfield 79, 3) := by decide +kernel
theorem dd_14_13 : decode (mB 14) 13 = .ok (.return_, 1) := by decide +kernel
theorem dd_15_0 : decode (mB 15) 0 = .ok (.iload_n 1, 1) := by decide +kernel
theorem dd_15_1 : decode (mB 15) 1 = .ok (.ifCond .lt 9, 3) := by decide +kernel
theorem dd_15_4 : decode (mB 15) 4 = .ok (.iload_n 1, 1) := by decide +kernel
theorem dd_15_5 : decode (mB 15) 5 = .ok (.bipush 20, 2) := by decide +kernel
theorem dd_15_7 : decode (mB 15) 7 = .ok (.if_icmp .lt 4, 3) := by decide +kernel
theorem dd_15_10 : decode (mB 15) 10 = .ok (.return_, 1) := by decide +kernel
theorem dd_15_11 : decode (mB 15) 11 = .ok (.aload_n 0, 1) := by decide +kernel
theorem dd_15_12 : decode (mB 15) 12 = .ok (.getfield 9, 3) := by decide +kernel
theorem dd_15_15 : decode (mB 15) 15 = .ok (.iload_n 1, 1) := by decide +kernel
theorem dd_15_16 : decode (mB 15) 16 = .ok (.iload_n 2, 1) := by decide +kernel
theorem dd_15_17 : decode (mB 15) 17 = .ok (.iastore, 1) := by decide +kernel
theorem dd_15_18 : decode (mB 15) 18 = .ok (.aload_n 0, 1) := by decide +kernel
theorem dd_15_19 : decode (mB 15) 19 = .ok (.getfield 15, 3) := by decide +kernel
theorem dd_15_22 : decode (mB 15) 22 = .ok (.iload_n 1, 1) := by decide +kernel
theorem dd_15_23 : decode (mB 15) 23 = .ok (.iload_n 3, 1) := by decide +kernel
theorem dd_15_24 : decode (mB 15) 24 = .ok (.iastore, 1) := by decide +kernel
theorem dd_15_25 : decode (mB 15) 25 = .ok (.aload_n 0, 1) := by decide +kernel
theorem dd_15_26 : decode (mB 15) 26 = .ok (.getfield 18, 3) := by decide +kernel
theorem dd_15_29 : decode (mB 15) 29 = .ok (.iload_n 1, 1) := by decide +kernel
theorem dd_15_30 : decode (mB 15) 30 = .ok (.iload 4, 2) := by decide +kernel
theorem dd_15_32 : decode (mB 15) 32 = .ok (.iastore, 1) := by decide +kernel
theorem dd_15_33 : decode (mB 15) 33 = .ok (.aload_n 0, 1) := by decide +kernel
theorem dd_15_34 : decode (mB 15) 34 = .ok (.invokevirtual 46, 3) := by decide +kernel
theorem dd_15_37 : decode (mB 15) 37 = .ok (.return_, 1) := by decide +kernel
theorem dd_16_0 : decode (mB 16) 0 = .ok (.iconst 1, 1) := by decide +kernel
theorem dd_16_1 : decode (mB 16) 1 = .ok (.aload_n 0, 1) := by decide +kernel
theorem dd_16_2 : decode (mB 16) 2 = .ok (.getfield 24, 3) := by decide +kernel
theorem dd_16_5 : decode (mB 16) 5 = .ok (.ishl, 1) := by decide +kernel
theorem dd_16_6 : decode (mB 16) 6 = .ok (.iconst 1, 1) := by decide +kernel
theorem dd_16_7 : decode (mB 16) 7 = .ok (.isub, 1) := by decide +kernel
theorem dd_16_8 : decode (mB 16) 8 = .ok (.ireturn, 1) := by decide +kernel
theorem dd_17_0 : decode (mB 17) 0 = .ok (.aload_n 0, 1) := by decide +kernel
theorem dd_17_1 : decode (mB 17) 1 = .ok (.iload_n 1, 1) := by decide +kernel
theorem dd_17_2 : decode (mB 17) 2 = .ok (.invokevirtual 111, 3) := by decide +kernel
theorem dd_17_5 : decode (mB 17) 5 = .ok (.ifCond .ne 6, 3) := by decide +kernel
theorem dd_17_8 : decode (mB 17) 8 = .ok (.ldc 87, 2) := by decide +kernel
theorem dd_17_10 : decode (mB 17) 10 = .ok (.ireturn, 1) := by decide +kernel
theorem dd_17_11 : decode (mB 17) 11 = .ok (.iload_n 2, 1) := by decide +kernel
theorem dd_17_12 : decode (mB 17) 12 = .ok (.iconst 0, 1) := by decide +kernel
theorem dd_17_13 : decode (mB 17) 13 = .ok (.iconst 2, 1) := by decide +kernel
theorem dd_17_14 : decode (mB 17) 14 = .ok (.invokestatic 88, 3) := by decide +kernel
theorem dd_17_17 : decode (mB 17) 17 = .ok (.ifCond .eq 26, 3) := by decide +kernel
theorem dd_17_20 : decode (mB 17) 20 = .ok (.iload_n 3, 1) := by decide +kernel
theorem dd_17_21 : decode (mB 17) 21 = .ok (.iconst 0, 1) := by decide +kernel
theorem dd_17_22 : decode (mB 17) 22 = .ok (.sipush 479, 3) := by decide +kernel
theorem dd_17_25 : decode (mB 17) 25 = .ok (.invokestatic 88, 3) := by decide +kernel
theorem dd_17_28 : decode (mB 17) 28 = .ok (.ifCond .eq 15, 3) := by decide +kernel
theorem dd_17_31 : decode (mB 17) 31 = .ok (.iload 4, 2) := by decide +kernel
theorem dd_17_33 : decode (mB 17) 33 = .ok (.iload_n 3, 1) := by decide +kernel
theorem dd_17_34 : decode (mB 17) 34 = .ok (.sipush 479, 3) := by decide +kernel
theorem dd_17_37 : decode (mB 17) 37 = .ok (.invokestatic 88, 3) := by decide +kernel
theorem dd_17_40 : decode (mB 17) 40 = .ok (.ifCond .ne 6, 3) := by decide +kernel
theorem dd_17_43 : decode (mB 17) 43 = .ok (.ldc 92, 2) := by decide +kernel
theorem dd_17_45 : decode (mB 17) 45 = .ok (.ireturn, 1) := by decide +kernel
theorem dd_17_46 : decode (mB 17) 46 = .ok (.aload_n 0, 1) := by decide +kernel
theorem dd_17_47 : decode (mB 17) 47 = .ok (.getfield 19, 3) := by decide +kernel
theorem dd_17_50 : decode (mB 17) 50 = .ok (.getfield 114, 3) := by decide +kernel
theorem dd_17_53 : decode (mB 17) 53 = .ok (.bipush 30, 2) := by decide +kernel
theorem dd_17_55 : decode (mB 17) 55 = .ok (.if_icmp .lt 6, 3) := by decide +kernel
theorem dd_17_58 : decode (mB 17) 58 = .ok (.ldc 96, 2) := by decide +kernel
theorem dd_17_60 : decode (mB 17) 60 = .ok (.ireturn, 1) := by decide +kernel
theorem dd_17_61 : decode (mB 17) 61 = .ok (.aload_n 0, 1) := by decide +kernel
theorem dd_17_62 : decode (mB 17) 62 = .ok (.invokevirtual 97, 3) := by decide +kernel
theorem dd_17_65 : decode (mB 17) 65 = .ok (.aload_n 0, 1) := by decide +kernel
theorem dd_17_66 : decode (mB 17) 66 = .ok (.getfield 19, 3) := by decide +kernel
theorem dd_17_69 : decode (mB 17) 69 = .ok (.iload_n 1, 1) := by decide +kernel
theorem dd_17_70 : decode (mB 17) 70 = .ok (.iload_n 2, 1) := by decide +kernel
theorem dd_17_71 : decode (mB 17) 71 = .ok (.iload_n 3, 1) := by decide +kernel
theorem dd_17_72 : decode (mB 17) 72 = .ok (.iload 4, 2) := by decide +kernel
theorem dd_17_74 : decode (mB 17) 74 = .ok (.invokevirtual 117, 3) := by decide +kernel
theorem dd_17_77 : decode (mB 17) 77 = .ok (.aload_n 0, 1) := by decide +kernel
theorem dd_17_78 : decode (mB 17) 78 = .ok (.getfield 19, 3) := by decide +kernel
theorem dd_17_81 : decode (mB 17) 81 = .ok (.getfield 114, 3) := by decide +kernel
theorem dd_17_84 : decode (mB 17) 84 = .ok (.ireturn, 1) := by decide +kernel
theorem dd_18_0 : decode (mB 18) 0 = .ok (.iload_n 1, 1) := by decide +kernel
theorem dd_18_1 : decode (mB 18) 1 = .ok (.iconst 0, 1) := by decide +kernel
theorem dd_18_2 : decode (mB 18) 2 = .ok (.aload_n 0, 1) := by decide +kernel
theorem dd_18_3 : decode (mB 18) 3 = .ok (.getfield 12, 3) := by decide +kernel
theorem dd_18_6 : decode (mB 18) 6 = .ok (.getfield 93, 3) := by decide +kernel
theorem dd_18_9 : decode (mB 18) 9 = .ok (.iconst 1, 1) := by decide +kernel
theorem dd_18_10 : decode (mB 18) 10 = .ok (.isub, 1) := by decide +kernel
theorem dd_18_11 : decode (mB 18) 11 = .ok (.invokestatic 88, 3) := by decide +kernel
theorem dd_18_14 : decode (mB 18) 14 = .ok (.ireturn, 1) := by decide +kernel
theorem dd_19_0 : decode (mB 19) 0 = .ok (.aload_n 0, 1) := by decide +kernel
theorem dd_19_1 : decode (mB 19) 1 = .ok (.getfield 24, 3) := by decide +kernel
theorem dd_19_4 : decode (mB 19) 4 = .ok (.bipush 30, 2) := by decide +kernel
theorem dd_19_6 : decode (mB 19) 6 = .ok (.if_icmp .lt 4, 3) := by decide +kernel
theorem dd_19_9 : decode (mB 19) 9 = .ok (.return_, 1) := by decide +kernel
theorem dd_19_10 : decode (mB 19) 10 = .ok (.aload_n 0, 1) := by decide +kernel
theorem dd_19_11 : decode (mB 19) 11 = .ok (.getfield 9, 3) := by decide +kernel
theorem dd_19_14 : decode (mB 19) 14 = .ok (.aload_n 0, 1) := by decide +kernel
theorem dd_19_15 : decode (mB 19) 15 = .ok (.getfield 24, 3) := by decide +kernel
theorem dd_19_18 : decode (mB 19) 18 = .ok (.iload_n 1, 1) := by decide +kernel
theorem dd_19_19 : decode (mB 19) 19 = .ok (.iastore, 1) := by decide +kernel
theorem dd_19_20 : decode (mB 19) 20 = .ok (.aload_n 0, 1) := by decide +kernel
theorem dd_19_21 : decode (mB 19) 21 = .ok (.getfield 15, 3) := by decide +kernel
theorem dd_19_24 : decode (mB 19) 24 = .ok (.aload_n 0, 1) := by decide +kernel
theorem dd_19_25 : decode (mB 19) 25 = .ok (.getfield 24, 3) := by decide +kernel
theorem dd_19_28 : decode (mB 19) 28 = .ok (.iload_n 2, 1) := by decide +kernel
theorem dd_19_29 : decode (mB 19) 29 = .ok (.iastore, 1) := by decide +kernel
theorem dd_19_30 : decode (mB 19) 30 = .ok (.aload_n 0, 1) := by decide +kernel
theorem dd_19_31 : decode (mB 19) 31 = .ok (.getfield 18, 3) := by decide +kernel
theorem dd_19_34 : decode (mB 19) 34 = .ok (.aload_n 0, 1) := by decide +kernel
theorem dd_19_35 : decode (mB 19) 35 = .ok (.getfield 24, 3) := by decide +kernel
theorem dd_19_38 : decode (mB 19) 38 = .ok (.iload_n 3, 1) := by decide +kernel
theorem dd_19_39 : decode (mB 19) 39 = .ok (.iastore, 1) := by decide +kernel
theorem dd_19_40 : decode (mB 19) 40 = .ok (.aload_n 0, 1) := by decide +kernel
theorem dd_19_41 : decode (mB 19) 41 = .ok (.getfield 21, 3) := by decide +kernel
theorem dd_19_44 : decode (mB 19) 44 = .ok (.aload_n 0, 1) := by decide +kernel
theorem dd_19_45 : decode (mB 19) 45 = .ok (.getfield 24, 3) := by decide +kernel
theorem dd_19_48 : decode (mB 19) 48 = .ok (.iload 4, 2) := by decide +kernel
theorem dd_19_50 : decode (mB 19) 50 = .ok (.iastore, 1) := by decide +kernel
theorem dd_19_51 : decode (mB 19) 51 = .ok (.aload_n 0, 1) := by decide +kernel
theorem dd_19_52 : decode (mB 19) 52 = .ok (.dup, 1) := by decide +kernel
theorem dd_19_53 : decode (mB 19) 53 = .ok (.getfield 24, 3) := by decide +kernel
theorem dd_19_56 : decode (mB 19) 56 = .ok (.iconst 1, 1) := by decide +kernel
theorem dd_19_57 : decode (mB 19) 57 = .ok (.iadd, 1) := by decide +kernel
theorem dd_19_58 : decode (mB 19) 58 = .ok (.putfield 24, 3) := by decide +kernel
theorem dd_19_61 : decode (mB 19) 61 = .ok (.return_, 1) := by decide +kernel
theorem dd_20_0 : decode (mB 20) 0 = .ok (.iload_n 1, 1) := by decide +kernel
theorem dd_20_1 : decode (mB 20) 1 = .ok (.invokestatic 83, 3) := by decide +kernel
theorem dd_20_4 : decode (mB 20) 4 = .ok (.ifCond .ne 6, 3) := by decide +kernel
theorem dd_20_7 : decode (mB 20) 7 = .ok (.ldc 87, 2) := by decide +kernel
theorem dd_20_9 : decode (mB 20) 9 = .ok (.ireturn, 1) := by decide +kernel
theorem dd_20_10 : decode (mB 20) 10 = .ok (.iload_n 2, 1) := by decide +kernel
theorem dd_20_11 : decode (mB 20) 11 = .ok (.iconst 0, 1) := by decide +kernel
theorem dd_20_12 : decode (mB 20) 12 = .ok (.bipush 9, 2) := by decide +kernel
theorem dd_20_14 : decode (mB 20) 14 = .ok (.invokestatic 88, 3) := by decide +kernel
theorem dd_20_17 : decode (mB 20) 17 = .ok (.ifCond .ne 6, 3) := by decide +kernel
theorem dd_20_20 : decode (mB 20) 20 = .ok (.ldc 92, 2) := by decide +kernel
theorem dd_20_22 : decode (mB 20) 22 = .ok (.ireturn, 1) := by decide +kernel
theorem dd_20_23 : decode (mB 20) 23 = .ok (.aload_n 0, 1) := by decide +kernel
theorem dd_20_24 : decode (mB 20) 24 = .ok (.invokevirtual 97, 3) := by decide +kernel
theorem dd_20_27 : decode (mB 20) 27 = .ok (.aload_n 0, 1) := by decide +kernel
theorem dd_20_28 : decode (mB 20) 28 = .ok (.getfield 23, 3) := by decide +kernel
theorem dd_20_31 : decode (mB 20) 31 = .ok (.iload_n 1, 1) := by decide +kernel
theorem dd_20_32 : decode (mB 20) 32 = .ok (.iaload, 1) := by decide +kernel
theorem dd_20_33 : decode (mB 20) 33 = .ok (.istore_n 3, 1) := by decide +kernel
theorem dd_20_34 : decode (mB 20) 34 = .ok (.aload_n 0, 1) := by decide +kernel
theorem dd_20_35 : decode (mB 20) 35 = .ok (.getfield 23, 3) := by decide +kernel
theorem dd_20_38 : decode (mB 20) 38 = .ok (.iload_n 1, 1) := by decide +kernel
theorem dd_20_39 : decode (mB 20) 39 = .ok (.iload_n 2, 1) := by decide +kernel
theorem dd_20_40 : decode (mB 20) 40 = .ok (.iastore, 1) := by decide +kernel
theorem dd_20_41 : decode (mB 20) 41 = .ok (.iload_n 3, 1) := by decide +kernel
theorem dd_20_42 : decode (mB 20) 42 = .ok (.ireturn, 1) := by decide +kernel
theorem dd_21_0 : decode (mB 21) 0 = .ok (.aload_n 0, 1) := by decide +kernel
theorem dd_21_1 : decode (mB 21) 1 = .ok (.iload_n 1, 1) := by decide +kernel
theorem dd_21_2 : decode (mB 21) 2 = .ok (.invokevirtual 111, 3) := by decide +kernel
theorem dd_21_5 : decode (mB 21) 5 = .ok (.ifCond .ne 6, 3) := by decide +kernel
theorem dd_21_8 : decode (mB 21) 8 = .ok (.ldc 87, 2) := by decide +kernel
theorem dd_21_10 : decode (mB 21) 10 = .ok (.ireturn, 1) := by decide +kernel
theorem dd_21_11 : decode (mB 21) 11 = .ok (.iload_n 2, 1) := by decide +kernel
theorem dd_21_12 : decode (mB 21) 12 = .ok (.tableswitch 119 0 6 #[44, 54, 64, 74, 90, 99, 109], 44) := by decide +kernel
theorem dd_21_56 : decode (mB 21) 56 = .ok (.aload_n 0, 1) := by decide +kernel
theorem dd_21_57 : decode (mB 21) 57 = .ok (.getfield 12, 3) := by decide +kernel
theorem dd_21_60 : decode (mB 21) 60 = .ok (.getfield 120, 3) := by decide +kernel
theorem dd_21_63 : decode (mB 21) 63 = .ok (.iload_n 1, 1) := by decide +kernel
theorem dd_21_64 : decode (mB 21) 64 = .ok (.iaload, 1) := by decide +kernel
theorem dd_21_65 : decode (mB 21) 65 = .ok (.ireturn, 1) := by decide +kernel
theorem dd_21_66 : decode (mB 21) 66 = .ok (.aload_n 0, 1) := by decide +kernel
theorem dd_21_67 : decode (mB 21) 67 = .ok (.getfield 12, 3) := by decide +kernel
theorem dd_21_70 : decode (mB 21) 70 = .ok (.getfield 123, 3) := by decide +kernel
theorem dd_21_73 : decode (mB 21) 73 = .ok (.iload_n 1, 1) := by decide +kernel
theorem dd_21_74 : decode (mB 21) 74 = .ok (.iaload, 1) := by decide +kernel
theorem dd_21_75 : decode (mB 21) 75 = .ok (.ireturn, 1) := by decide +kernel
theorem dd_21_76 : decode (mB 21) 76 = .ok (.aload_n 0, 1) := by decide +kernel
theorem dd_21_77 : decode (mB 21) 77 = .ok (.getfield 12, 3) := by decide +kernel
theorem dd_21_80 : decode (mB 21) 80 = .ok (.getfield 126, 3) := by decide +kernel
theorem dd_21_83 : decode (mB 21) 83 = .ok (.iload_n 1, 1) := by decide +kernel
theorem dd_21_84 : decode (mB 21) 84 = .ok (.iaload, 1) := by decide +kernel
theorem dd_21_85 : decode (mB 21) 85 = .ok (.ireturn, 1) := by decide +kernel
theorem dd_21_86 : decode (mB 21) 86 = .ok (.aload_n 0, 1) := by decide +kernel
theorem dd_21_87 : decode (mB 21) 87 = .ok (.getfield 19, 3) := by decide +kernel
theorem dd_21_90 : decode (mB 21) 90 = .ok (.iload_n 1, 1) := by decide +kernel
theorem dd_21_91 : decode (mB 21) 91 = .ok (.aload_n 0, 1) := by decide +kernel
theorem dd_21_92 : decode (mB 21) 92 = .ok (.getfield 55, 3) := by decide +kernel
theorem dd_21_95 : decode (mB 21) 95 = .ok (.getfield 129, 3) := by decide +kernel
theorem dd_21_98 : decode (mB 21) 98 = .ok (.invokevirtual 132, 3) := by decide +kernel
theorem dd_21_101 : decode (mB 21) 101 = .ok (.ireturn, 1) := by decide +kernel
theorem dd_21_102 : decode (mB 21) 102 = .ok (.aload_n 0, 1) := by decide +kernel
theorem dd_21_103 : decode (mB 21) 103 = .ok (.getfield 55, 3) := by decide +kernel
theorem dd_21_106 : decode (mB 21) 106 = .ok (.iload_n 1, 1) := by decide +kernel
theorem dd_21_107 : decode (mB 21) 107 = .ok (.invokevirtual 136, 3) := by decide +kernel
theorem dd_21_110 : decode (mB 21) 110 = .ok (.ireturn, 1) := by decide +kernel
theorem dd_21_111 : decode (mB 21) 111 = .ok (.aload_n 0, 1) := by decide +kernel
theorem dd_21_112 : decode (mB 21) 112 = .ok (.getfield 55, 3) := by decide +kernel
theorem dd_21_115 : decode (mB 21) 115 = .ok (.getfield 140, 3) := by decide +kernel
theorem dd_21_118 : decode (mB 21) 118 = .ok (.iload_n 1, 1) := by decide +kernel
theorem dd_21_119 : decode (mB 21) 119 = .ok (.iaload, 1) := by decide +kernel
theorem dd_21_120 : decode (mB 21) 120 = .ok (.ireturn, 1) := by decide +kernel
theorem dd_21_121 : decode (mB 21) 121 = .ok (.aload_n 0, 1) := by decide +kernel
theorem dd_21_122 : decode (mB 21) 122 = .ok (.getfield 55, 3) := by decide +kernel
theorem dd_21_125 : decode (mB 21) 125 = .ok (.getfield 143, 3) := by decide +kernel
theorem dd_21_128 : decode (mB 21) 128 = .ok (.iload_n 1, 1) := by decide +kernel
theorem dd_21_129 : decode (mB 21) 129 = .ok (.iaload, 1) := by decide +kernel
theorem dd_21_130 : decode (mB 21) 130 = .ok (.ireturn, 1) := by decide +kernel
theorem dd_21_131 : decode (mB 21) 131 = .ok (.ldc 92, 2) := by decide +kernel
theorem dd_21_133 : decode (mB 21) 133 = .ok (.ireturn, 1) := by decide +kernel
theorem dd_22_0 : decode (mB 22) 0 = .ok (.iconst 0, 1) := by decide +kernel
theorem dd_22_1 : decode (mB 22) 1 = .ok (.istore_n 3, 1) := by decide +kernel
theorem dd_22_2 : decode (mB 22) 2 = .ok (.iload_n 3, 1) := by decide +kernel
theorem dd_22_3 : decode (mB 22) 3 = .ok (.aload_n 0, 1) := by decide +kernel
theorem dd_22_4 : decode (mB 22) 4 = .ok (.getfield 24, 3) := by decide +kernel
theorem dd_22_7 : decode (mB 22) 7 = .ok (.if_icmp .ge 45, 3) := by decide +kernel
theorem dd_22_10 : decode (mB 22) 10 = .ok (.aload_n 0, 1) := by decide +kernel
theorem dd_22_11 : decode (mB 22) 11 = .ok (.getfield 9, 3) := by decide +kernel
theorem dd_22_14 : decode (mB 22) 14 = .ok (.iload_n 3, 1) := by decide +kernel
theorem dd_22_15 : decode (mB 22) 15 = .ok (.iaload, 1) := by decide +kernel
theorem dd_22_16 : decode (mB 22) 16 = .ok (.iload_n 1, 1) := by decide +kernel
theorem dd_22_17 : decode (mB 22) 17 = .ok (.if_icmp .ne 29, 3) := by decide +kernel
theorem dd_22_20 : decode (mB 22) 20 = .ok (.iload_n 2, 1) := by decide +kernel
theorem dd_22_21 : decode (mB 22) 21 = .ok (.aload_n 0, 1) := by decide +kernel
theorem dd_22_22 : decode (mB 22) 22 = .ok (.getfield 18, 3) := by decide +kernel
theorem dd_22_25 : decode (mB 22) 25 = .ok (.iload_n 3, 1) := by decide +kernel
theorem dd_22_26 : decode (mB 22) 26 = .ok (.iaload, 1) := by decide +kernel
theorem dd_22_27 : decode (mB 22) 27 = .ok (.aload_n 0, 1) := by decide +kernel
theorem dd_22_28 : decode (mB 22) 28 = .ok (.getfield 21, 3) := by decide +kernel
theorem dd_22_31 : decode (mB 22) 31 = .ok (.iload_n 3, 1) := by decide +kernel
theorem dd_22_32 : decode (mB 22) 32 = .ok (.iaload, 1) := by decide +kernel
theorem dd_22_33 : decode (mB 22) 33 = .ok (.invokestatic 28, 3) := by decide +kernel
theorem dd_22_36 : decode (mB 22) 36 = .ok (.ifCond .eq 10, 3) := by decide +kernel
theorem dd_22_39 : decode (mB 22) 39 = .ok (.aload_n 0, 1) := by decide +kernel
theorem dd_22_40 : decode (mB 22) 40 = .ok (.getfield 15, 3) := by decide +kernel
theorem dd_22_43 : decode (mB 22) 43 = .ok (.iload_n 3, 1) := by decide +kernel
theorem dd_22_44 : decode (mB 22) 44 = .ok (.iaload, 1) := by decide +kernel
theorem dd_22_45 : decode (mB 22) 45 = .ok (.ireturn, 1) := by decide +kernel
theorem dd_22_46 : decode (mB 22) 46 = .ok (.iinc 3 1, 3) := by decide +kernel
theorem dd_22_49 : decode (mB 22) 49 = .ok (.goto (-47), 3) := by decide +kernel
theorem dd_22_52 : decode (mB 22) 52 = .ok (.iconst (-1), 1) := by decide +kernel
theorem dd_22_53 : decode (mB 22) 53 = .ok (.ireturn, 1) := by decide +kernel
theorem dd_23_0 : decode (mB 23) 0 = .ok (.iconst 0, 1) := by decide +kernel
theorem dd_23_1 : decode (mB 23) 1 = .ok (.istore_n 2, 1) := by decide +kernel
theorem dd_23_2 : decode (mB 23) 2 = .ok (.iload_n 2, 1) := by decide +kernel
theorem dd_23_3 : decode (mB 23) 3 = .ok (.aload_n 0, 1) := by decide +kernel
theorem dd_23_4 : decode (mB 23) 4 = .ok (.getfield 17, 3) := by decide +kernel
theorem dd_23_7 : decode (mB 23) 7 = .ok (.if_icmp .ge 27, 3) := by decide +kernel
theorem dd_23_10 : decode (mB 23) 10 = .ok (.aload_n 0, 1) := by decide +kernel
theorem dd_23_11 : decode (mB 23) 11 = .ok (.getfield 11, 3) := by decide +kernel
theorem dd_23_14 : decode (mB 23) 14 = .ok (.iload_n 2, 1) := by decide +kernel
theorem dd_23_15 : decode (mB 23) 15 = .ok (.aaload, 1) := by decide +kernel
theorem dd_23_16 : decode (mB 23) 16 = .ok (.getfield 144, 3) := by decide +kernel
theorem dd_23_19 : decode (mB 23) 19 = .ok (.iload_n 1, 1) := by decide +kernel
theorem dd_23_20 : decode (mB 23) 20 = .ok (.ishr, 1) := by decide +kernel
theorem dd_23_21 : decode (mB 23) 21 = .ok (.iconst 1, 1) := by decide +kernel
theorem dd_23_22 : decode (mB 23) 22 = .ok (.iand, 1) := by decide +kernel
theorem dd_23_23 : decode (mB 23) 23 = .ok (.ifCond .eq 5, 3) := by decide +kernel
theorem dd_23_26 : decode (mB 23) 26 = .ok (.iload_n 2, 1) := by decide +kernel
theorem dd_23_27 : decode (mB 23) 27 = .ok (.ireturn, 1) := by decide +kernel
theorem dd_23_28 : decode (mB 23) 28 = .ok (.iinc 2 1, 3) := by decide +kernel
theorem dd_23_31 : decode (mB 23) 31 = .ok (.goto (-29), 3) := by decide +kernel
theorem dd_23_34 : decode (mB 23) 34 = .ok (.iconst (-1), 1) := by decide +kernel
theorem dd_23_35 : decode (mB 23) 35 = .ok (.ireturn, 1) := by decide +kernel
theorem dd_24_0 : decode (mB 24) 0 = .ok (.iload_n 1, 1) := by decide +kernel
theorem dd_24_1 : decode (mB 24) 1 = .ok (.tableswitch 159 0 15 #[79, 87, 95, 159, 159, 159, 159, 159, 159, 103, 111, 119, 127, 135, 143, 151], 79) := by decide +kernel
theorem dd_24_80 : decode (mB 24) 80 = .ok (.aload_n 0, 1) := by decide +kernel
theorem dd_24_81 : decode (mB 24) 81 = .ok (.getfield 55, 3) := by decide +kernel
theorem dd_24_84 : decode (mB 24) 84 = .ok (.getfield 129, 3) := by decide +kernel
theorem dd_24_87 : decode (mB 24) 87 = .ok (.ireturn, 1) := by decide +kernel
theorem dd_24_88 : decode (mB 24) 88 = .ok (.aload_n 0, 1) := by decide +kernel
theorem dd_24_89 : decode (mB 24) 89 = .ok (.getfield 12, 3) := by decide +kernel
theorem dd_24_92 : decode (mB 24) 92 = .ok (.getfield 93, 3) := by decide +kernel
theorem dd_24_95 : decode (mB 24) 95 = .ok (.ireturn, 1) := by decide +kernel
theorem dd_24_96 : decode (mB 24) 96 = .ok (.aload_n 0, 1) := by decide +kernel
theorem dd_24_97 : decode (mB 24) 97 = .ok (.getfield 55, 3) := by decide +kernel
theorem dd_24_100 : decode (mB 24) 100 = .ok (.getfield 146, 3) := by decide +kernel
theorem dd_24_103 : decode (mB 24) 103 = .ok (.ireturn, 1) := by decide +kernel
theorem dd_24_104 : decode (mB 24) 104 = .ok (.aload_n 0, 1) := by decide +kernel
theorem dd_24_105 : decode (mB 24) 105 = .ok (.getfield 55, 3) := by decide +kernel
theorem dd_24_108 : decode (mB 24) 108 = .ok (.getfield 147, 3) := by decide +kernel
theorem dd_24_111 : decode (mB 24) 111 = .ok (.ireturn, 1) := by decide +kernel
theorem dd_24_112 : decode (mB 24) 112 = .ok (.aload_n 0, 1) := by decide +kernel
theorem dd_24_113 : decode (mB 24) 113 = .ok (.getfield 30, 3) := by decide +kernel
theorem dd_24_116 : decode (mB 24) 116 = .ok (.getfield 150, 3) := by decide +kernel
theorem dd_24_119 : decode (mB 24) 119 = .ok (.ireturn, 1) := by decide +kernel
theorem dd_24_120 : decode (mB 24) 120 = .ok (.aload_n 0, 1) := by decide +kernel
theorem dd_24_121 : decode (mB 24) 121 = .ok (.getfield 62, 3) := by decide +kernel
theorem dd_24_124 : decode (mB 24) 124 = .ok (.getfield 151, 3) := by decide +kernel
theorem dd_24_127 : decode (mB 24) 127 = .ok (.ireturn, 1) := by decide +kernel
theorem dd_24_128 : decode (mB 24) 128 = .ok (.aload_n 0, 1) := by decide +kernel
theorem dd_24_129 : decode (mB 24) 129 = .ok (.getfield 12, 3) := by decide +kernel
theorem dd_24_132 : decode (mB 24) 132 = .ok (.getfield 154, 3) := by decide +kernel
theorem dd_24_135 : decode (mB 24) 135 = .ok (.ireturn, 1) := by decide +kernel
theorem dd_24_136 : decode (mB 24) 136 = .ok (.aload_n 0, 1) := by decide +kernel
theorem dd_24_137 : decode (mB 24) 137 = .ok (.getfield 46, 3) := by decide +kernel
theorem dd_24_140 : decode (mB 24) 140 = .ok (.getfield 157, 3) := by decide +kernel
theorem dd_24_143 : decode (mB 24) 143 = .ok (.ireturn, 1) := by decide +kernel
theorem dd_24_144 : decode (mB 24) 144 = .ok (.aload_n 0, 1) := by decide +kernel
theorem dd_24_145 : decode (mB 24) 145 = .ok (.getfield 55, 3) := by decide +kernel
theorem dd_24_148 : decode (mB 24) 148 = .ok (.invokevirtual 160, 3) := by decide +kernel
theorem dd_24_151 : decode (mB 24) 151 = .ok (.ireturn, 1) := by decide +kernel
theorem dd_24_152 : decode (mB 24) 152 = .ok (.aload_n 0, 1) := by decide +kernel
theorem dd_24_153 : decode (mB 24) 153 = .ok (.getfield 55, 3) := by decide +kernel
theorem dd_24_156 : decode (mB 24) 156 = .ok (.invokevirtual 163, 3) := by decide +kernel
theorem dd_24_159 : decode (mB 24) 159 = .ok (.ireturn, 1) := by decide +kernel
theorem dd_24_160 : decode (mB 24) 160 = .ok (.iload_n 1, 1) := by decide +kernel
theorem dd_24_161 : decode (mB 24) 161 = .ok (.iconst 3, 1) := by decide +kernel
theorem dd_24_162 : decode (mB 24) 162 = .ok (.bipush 8, 2) := by decide +kernel
theorem dd_24_164 : decode (mB 24) 164 = .ok (.invokestatic 88, 3) := by decide +kernel
theorem dd_24_167 : decode (mB 24) 167 = .ok (.ifCond .eq 16, 3) := by decide +kernel
theorem dd_24_170 : decode (mB 24) 170 = .ok (.aload_n 0, 1) := by decide +kernel
theorem dd_24_171 : decode (mB 24) 171 = .ok (.getfield 55, 3) := by decide +kernel
theorem dd_24_174 : decode (mB 24) 174 = .ok (.iload_n 1, 1) := by decide +kernel
theorem dd_24_175 : decode (mB 24) 175 = .ok (.iconst 3, 1) := by decide +kernel
theorem dd_24_176 : decode (mB 24) 176 = .ok (.isub, 1) := by decide +kernel
theorem dd_24_177 : decode (mB 24) 177 = .ok (.invokevirtual 166, 3) := by decide +kernel
theorem dd_24_180 : decode (mB 24) 180 = .ok (.goto 5, 3) := by decide +kernel
theorem dd_24_183 : decode (mB 24) 183 = .ok (.ldc 92, 2) := by decide +kernel
theorem dd_24_185 : decode (mB 24) 185 = .ok (.ireturn, 1) := by decide +kernel
theorem dd_25_0 : decode (mB 25) 0 = .ok (.iconst 0, 1) := by decide +kernel
theorem dd_25_1 : decode (mB 25) 1 = .ok (.istore_n 1, 1) := by decide +kernel
theorem dd_25_2 : decode (mB 25) 2 = .ok (.iconst 0, 1) := by decide +kernel
theorem dd_25_3 : decode (mB 25) 3 = .ok (.istore_n 2, 1) := by decide +kernel
theorem dd_25_4 : decode (mB 25) 4 = .ok (.iload_n 2, 1) := by decide +kernel
theorem dd_25_5 : decode (mB 25) 5 = .ok (.aload_n 0, 1) := by decide +kernel
theorem dd_25_6 : decode (mB 25) 6 = .ok (.getfield 17, 3) := by decide +kernel
theorem dd_25_9 : decode (mB 25) 9 = .ok (.if_icmp .ge 21, 3) := by decide +kernel
theorem dd_25_12 : decode (mB 25) 12 = .ok (.iload_n 1, 1) := by decide +kernel
theorem dd_25_13 : decode (mB 25) 13 = .ok (.aload_n 0, 1) := by decide +kernel
theorem dd_25_14 : decode (mB 25) 14 = .ok (.getfield 11, 3) := by decide +kernel
theorem dd_25_17 : decode (mB 25) 17 = .ok (.iload_n 2, 1) := by decide +kernel
theorem dd_25_18 : decode (mB 25) 18 = .ok (.aaload, 1) := by decide +kernel
theorem dd_25_19 : decode (mB 25) 19 = .ok (.getfield 78, 3) := by decide +kernel
theorem dd_25_22 : decode (mB 25) 22 = .ok (.iadd, 1) := by decide +kernel
theorem dd_25_23 : decode (mB 25) 23 = .ok (.istore_n 1, 1) := by decide +kernel
theorem dd_25_24 : decode (mB 25) 24 = .ok (.iinc 2 1, 3) := by decide +kernel
theorem dd_25_27 : decode (mB 25) 27 = .ok (.goto (-23), 3) := by decide +kernel
theorem dd_25_30 : decode (mB 25) 30 = .ok (.iload_n 1, 1) := by decide +kernel
theorem dd_25_31 : decode (mB 25) 31 = .ok (.ireturn, 1) := by decide +kernel
theorem dd_26_0 : decode (mB 26) 0 = .ok (.iconst 0, 1) := by decide +kernel
theorem dd_26_1 : decode (mB 26) 1 = .ok (.istore_n 1, 1) := by decide +kernel
theorem dd_26_2 : decode (mB 26) 2 = .ok (.iconst 0, 1) := by decide +kernel
theorem dd_26_3 : decode (mB 26) 3 = .ok (.istore_n 2, 1) := by decide +kernel
theorem dd_26_4 : decode (mB 26) 4 = .ok (.iload_n 2, 1) := by decide +kernel
theorem dd_26_5 : decode (mB 26) 5 = .ok (.aload_n 0, 1) := by decide +kernel
theorem dd_26_6 : decode (mB 26) 6 = .ok (.getfield 17, 3) := by decide +kernel
theorem dd_26_9 : decode (mB 26) 9 = .ok (.if_icmp .ge 22, 3) := by decide +kernel
theorem dd_26_12 : decode (mB 26) 12 = .ok (.iload_n 1, 1) := by decide +kernel
theorem dd_26_13 : decode (mB 26) 13 = .ok (.aload_n 0, 1) := by decide +kernel
theorem dd_26_14 : decode (mB 26) 14 = .ok (.aload_n 0, 1) := by decide +kernel
theorem dd_26_15 : decode (mB 26) 15 = .ok (.getfield 11, 3) := by decide +kernel
theorem dd_26_18 : decode (mB 26) 18 = .ok (.iload_n 2, 1) := by decide +kernel
theorem dd_26_19 : decode (mB 26) 19 = .ok (.aaload, 1) := by decide +kernel
theorem dd_26_20 : decode (mB 26) 20 = .ok (.invokevirtual 81, 3) := by decide +kernel
theorem dd_26_23 : decode (mB 26) 23 = .ok (.iadd, 1) := by decide +kernel
theorem dd_26_24 : decode (mB 26) 24 = .ok (.istore_n 1, 1) := by decide +kernel
theorem dd_26_25 : decode (mB 26) 25 = .ok (.iinc 2 1, 3) := by decide +kernel
theorem dd_26_28 : decode (mB 26) 28 = .ok (.goto (-24), 3) := by decide +kernel
theorem dd_26_31 : decode (mB 26) 31 = .ok (.iload_n 1, 1) := by decide +kernel
theorem dd_26_32 : decode (mB 26) 32 = .ok (.ireturn, 1) := by decide +kernel
theorem dd_27_0 : decode (mB 27) 0 = .ok (.aload_n 1, 1) := by decide +kernel
theorem dd_27_1 : decode (mB 27) 1 = .ok (.getfield 75, 3) := by decide +kernel
theorem dd_27_4 : decode (mB 27) 4 = .ok (.iconst 3, 1) := by decide +kernel
theorem dd_27_5 : decode (mB 27) 5 = .ok (.if_icmp .eq 13, 3) := by decide +kernel
theorem dd_27_8 : decode (mB 27) 8 = .ok (.aload_n 1, 1) := by decide +kernel
theorem dd_27_9 : decode (mB 27) 9 = .ok (.getfield 75, 3) := by decide +kernel
theorem dd_27_12 : decode (mB 27) 12 = .ok (.iconst 4, 1) := by decide +kernel
theorem dd_27_13 : decode (mB 27) 13 = .ok (.if_icmp .eq 5, 3) := by decide +kernel
theorem dd_27_16 : decode (mB 27) 16 = .ok (.iconst 0, 1) := by decide +kernel
theorem dd_27_17 : decode (mB 27) 17 = .ok (.ireturn, 1) := by decide +kernel
theorem dd_27_18 : decode (mB 27) 18 = .ok (.aload_n 0, 1) := by decide +kernel
theorem dd_27_19 : decode (mB 27) 19 = .ok (.getfield 67, 3) := by decide +kernel
theorem dd_27_22 : decode (mB 27) 22 = .ok (.aload_n 1, 1) := by decide +kernel
theorem dd_27_23 : decode (mB 27) 23 = .ok (.getfield 85, 3) := by decide +kernel
theorem dd_27_26 : decode (mB 27) 26 = .ok (.aload_n 0, 1) := by decide +kernel
theorem dd_27_27 : decode (mB 27) 27 = .ok (.getfield 43, 3) := by decide +kernel
theorem dd_27_30 : decode (mB 27) 30 = .ok (.invokevirtual 88, 3) := by decide +kernel
theorem dd_27_33 : decode (mB 27) 33 = .ok (.aload_n 1, 1) := by decide +kernel
theorem dd_27_34 : decode (mB 27) 34 = .ok (.invokevirtual 94, 3) := by decide +kernel
theorem dd_27_37 : decode (mB 27) 37 = .ok (.iconst 2, 1) := by decide +kernel
theorem dd_27_38 : decode (mB 27) 38 = .ok (.iadd, 1) := by decide +kernel
theorem dd_27_39 : decode (mB 27) 39 = .ok (.iconst 3, 1) := by decide +kernel
theorem dd_27_40 : decode (mB 27) 40 = .ok (.idiv, 1) := by decide +kernel
theorem dd_27_41 : decode (mB 27) 41 = .ok (.istore_n 2, 1) := by decide +kernel
theorem dd_27_42 : decode (mB 27) 42 = .ok (.iload_n 2, 1) := by decide +kernel
theorem dd_27_43 : decode (mB 27) 43 = .ok (.aload_n 0, 1) := by decide +kernel
theorem dd_27_44 : decode (mB 27) 44 = .ok (.getfield 67, 3) := by decide +kernel
theorem dd_27_47 : decode (mB 27) 47 = .ok (.aload_n 1, 1) := by decide +kernel
theorem dd_27_48 : decode (mB 27) 48 = .ok (.getfield 98, 3) := by decide +kernel
theorem dd_27_51 : decode (mB 27) 51 = .ok (.invokestatic 101, 3) := by decide +kernel
theorem dd_27_54 : decode (mB 27) 54 = .ok (.invokevirtual 107, 3) := by decide +kernel
theorem dd_27_57 : decode (mB 27) 57 = .ok (.imul, 1) := by decide +kernel
theorem dd_27_58 : decode (mB 27) 58 = .ok (.aload_n 0, 1) := by decide +kernel
theorem dd_27_59 : decode (mB 27) 59 = .ok (.getfield 67, 3) := by decide +kernel
theorem dd_27_62 : decode (mB 27) 62 = .ok (.aload_n 1, 1) := by decide +kernel
theorem dd_27_63 : decode (mB 27) 63 = .ok (.getfield 85, 3) := by decide +kernel
theorem dd_27_66 : decode (mB 27) 66 = .ok (.invokevirtual 110, 3) := by decide +kernel
theorem dd_27_69 : decode (mB 27) 69 = .ok (.imul, 1) := by decide +kernel
theorem dd_27_70 : decode (mB 27) 70 = .ok (.bipush 100, 2) := by decide +kernel
theorem dd_27_72 : decode (mB 27) 72 = .ok (.idiv, 1) := by decide +kernel
theorem dd_27_73 : decode (mB 27) 73 = .ok (.istore_n 3, 1) := by decide +kernel
theorem dd_27_74 : decode (mB 27) 74 = .ok (.aload_n 1, 1) := by decide +kernel
theorem dd_27_75 : decode (mB 27) 75 = .ok (.getfield 113, 3) := by decide +kernel
theorem dd_27_78 : decode (mB 27) 78 = .ok (.iconst 1, 1) := by decide +kernel
theorem dd_27_79 : decode (mB 27) 79 = .ok (.if_icmp .ne 7, 3) := by decide +kernel
theorem dd_27_82 : decode (mB 27) 82 = .ok (.iload_n 3, 1) := by decide +kernel
theorem dd_27_83 : decode (mB 27) 83 = .ok (.iconst 2, 1) := by decide +kernel
theorem dd_27_84 : decode (mB 27) 84 = .ok (.imul, 1) := by decide +kernel
theorem dd_27_85 : decode (mB 27) 85 = .ok (.istore_n 3, 1) := by decide +kernel
theorem dd_27_86 : decode (mB 27) 86 = .ok (.aload_n 1, 1) := by decide +kernel
theorem dd_27_87 : decode (mB 27) 87 = .ok (.getfield 113, 3) := by decide +kernel
theorem dd_27_90 : decode (mB 27) 90 = .ok (.iconst 2, 1) := by decide +kernel
theorem dd_27_91 : decode (mB 27) 91 = .ok (.if_icmp .ne 26, 3) := by decide +kernel
theorem dd_27_94 : decode (mB 27) 94 = .ok (.aload_n 1, 1) := by decide +kernel
theorem dd_27_95 : decode (mB 27) 95 = .ok (.getfield 85, 3) := by decide +kernel
theorem dd_27_98 : decode (mB 27) 98 = .ok (.aload_n 1, 1) := by decide +kernel
theorem dd_27_99 : decode (mB 27) 99 = .ok (.getfield 116, 3) := by decide +kernel
theorem dd_27_102 : decode (mB 27) 102 = .ok (.aload_n 0, 1) := by decide +kernel
theorem dd_27_103 : decode (mB 27) 103 = .ok (.getfield 67, 3) := by decide +kernel
theorem dd_27_106 : decode (mB 27) 106 = .ok (.getfield 119, 3) := by decide +kernel
theorem dd_27_109 : decode (mB 27) 109 = .ok (.iadd, 1) := by decide +kernel
theorem dd_27_110 : decode (mB 27) 110 = .ok (.if_icmp .le 7, 3) := by decide +kernel
theorem dd_27_113 : decode (mB 27) 113 = .ok (.iload_n 3, 1) := by decide +kernel
theorem dd_27_114 : decode (mB 27) 114 = .ok (.iconst 2, 1) := by decide +kernel
theorem dd_27_115 : decode (mB 27) 115 = .ok (.idiv, 1) := by decide +kernel
theorem dd_27_116 : decode (mB 27) 116 = .ok (.istore_n 3, 1) := by decide +kernel
theorem dd_27_117 : decode (mB 27) 117 = .ok (.aload_n 1, 1) := by decide +kernel
theorem dd_27_118 : decode (mB 27) 118 = .ok (.getfield 75, 3) := by decide +kernel
theorem dd_27_121 : decode (mB 27) 121 = .ok (.iconst 4, 1) := by decide +kernel
theorem dd_27_122 : decode (mB 27) 122 = .ok (.if_icmp .ne 20, 3) := by decide +kernel
theorem dd_27_125 : decode (mB 27) 125 = .ok (.iload_n 3, 1) := by decide +kernel
theorem dd_27_126 : decode (mB 27) 126 = .ok (.iload_n 3, 1) := by decide +kernel
theorem dd_27_127 : decode (mB 27) 127 = .ok (.aload_n 0, 1) := by decide +kernel
theorem dd_27_128 : decode (mB 27) 128 = .ok (.getfield 67, 3) := by decide +kernel
theorem dd_27_131 : decode (mB 27) 131 = .ok (.getfield 122, 3) := by decide +kernel
theorem dd_27_134 : decode (mB 27) 134 = .ok (.imul, 1) := by decide +kernel
theorem dd_27_135 : decode (mB 27) 135 = .ok (.bipush 100, 2) := by decide +kernel
theorem dd_27_137 : decode (mB 27) 137 = .ok (.idiv, 1) := by decide +kernel
theorem dd_27_138 : decode (mB 27) 138 = .ok (.isub, 1) := by decide +kernel
theorem dd_27_139 : decode (mB 27) 139 = .ok (.goto 4, 3) := by decide +kernel
theorem dd_27_142 : decode (mB 27) 142 = .ok (.iload_n 3, 1) := by decide +kernel
theorem dd_27_143 : decode (mB 27) 143 = .ok (.ireturn, 1) := by decide +kernel
theorem dd_28_0 : decode (mB 28) 0 = .ok (.aload_n 0, 1) := by decide +kernel
theorem dd_28_1 : decode (mB 28) 1 = .ok (.getfield 43, 3) := by decide +kernel
theorem dd_28_4 : decode (mB 28) 4 = .ok (.iload_n 1, 1) := by decide +kernel
theorem dd_28_5 : decode (mB 28) 5 = .ok (.invokevirtual 47, 3) := by decide +kernel
theorem dd_28_8 : decode (mB 28) 8 = .ok (.iload_n 2, 1) := by decide +kernel
theorem dd_28_9 : decode (mB 28) 9 = .ok (.iconst (-1), 1) := by decide +kernel
theorem dd_28_10 : decode (mB 28) 10 = .ok (.ixor, 1) := by decide +kernel
theorem dd_28_11 : decode (mB 28) 11 = .ok (.iand, 1) := by decide +kernel
theorem dd_28_12 : decode (mB 28) 12 = .ok (.istore_n 3, 1) := by decide +kernel
theorem dd_28_13 : decode (mB 28) 13 = .ok (.iload_n 3, 1) := by decide +kernel
theorem dd_28_14 : decode (mB 28) 14 = .ok (.aload_n 0, 1) := by decide +kernel
theorem dd_28_15 : decode (mB 28) 15 = .ok (.getfield 9, 3) := by decide +kernel
theorem dd_28_18 : decode (mB 28) 18 = .ok (.if_icmp .ne 4, 3) := by decide +kernel
theorem dd_28_21 : decode (mB 28) 21 = .ok (.return_, 1) := by decide +kernel
theorem dd_28_22 : decode (mB 28) 22 = .ok (.aload_n 0, 1) := by decide +kernel
theorem dd_28_23 : decode (mB 28) 23 = .ok (.iload_n 3, 1) := by decide +kernel
theorem dd_28_24 : decode (mB 28) 24 = .ok (.putfield 9, 3) := by decide +kernel
theorem dd_28_27 : decode (mB 28) 27 = .ok (.aload_n 0, 1) := by decide +kernel
theorem dd_28_28 : decode (mB 28) 28 = .ok (.aload_n 0, 1) := by decide +kernel
theorem dd_28_29 : decode (mB 28) 29 = .ok (.iload_n 3, 1) := by decide +kernel
theorem dd_28_30 : decode (mB 28) 30 = .ok (.invokevirtual 53, 3) := by decide +kernel
theorem dd_28_33 : decode (mB 28) 33 = .ok (.invokevirtual 56, 3) := by decide +kernel
theorem dd_28_36 : decode (mB 28) 36 = .ok (.aload_n 0, 1) := by decide +kernel
theorem dd_28_37 : decode (mB 28) 37 = .ok (.invokevirtual 60, 3) := by decide +kernel
theorem dd_28_40 : decode (mB 28) 40 = .ok (.iconst 0, 1) := by decide +kernel
theorem dd_28_41 : decode (mB 28) 41 = .ok (.istore 4, 2) := by decide +kernel
theorem dd_28_43 : decode (mB 28) 43 = .ok (.iload 4, 2) := by decide +kernel
theorem dd_28_45 : decode (mB 28) 45 = .ok (.aload_n 0, 1) := by decide +kernel
theorem dd_28_46 : decode (mB 28) 46 = .ok (.getfield 19, 3) := by decide +kernel
theorem dd_28_49 : decode (mB 28) 49 = .ok (.if_icmp .ge 59, 3) := by decide +kernel
theorem dd_28_52 : decode (mB 28) 52 = .ok (.aload_n 0, 1) := by decide +kernel
theorem dd_28_53 : decode (mB 28) 53 = .ok (.getfield 15, 3) := by decide +kernel
theorem dd_28_56 : decode (mB 28) 56 = .ok (.iload 4, 2) := by decide +kernel
theorem dd_28_58 : decode (mB 28) 58 = .ok (.iaload, 1) := by decide +kernel
theorem dd_28_59 : decode (mB 28) 59 = .ok (.bipush 10, 2) := by decide +kernel
theorem dd_28_61 : decode (mB 28) 61 = .ok (.imul, 1) := by decide +kernel
theorem dd_28_62 : decode (mB 28) 62 = .ok (.istore 5, 2) := by decide +kernel
theorem dd_28_64 : decode (mB 28) 64 = .ok (.iconst 0, 1) := by decide +kernel
theorem dd_28_65 : decode (mB 28) 65 = .ok (.istore 6, 2) := by decide +kernel
theorem dd_28_67 : decode (mB 28) 67 = .ok (.iload 6, 2) := by decide +kernel
theorem dd_28_69 : decode (mB 28) 69 = .ok (.aload_n 0, 1) := by decide +kernel
theorem dd_28_70 : decode (mB 28) 70 = .ok (.getfield 43, 3) := by decide +kernel
theorem dd_28_73 : decode (mB 28) 73 = .ok (.getfield 63, 3) := by decide +kernel
theorem dd_28_76 : decode (mB 28) 76 = .ok (.aload_n 0, 1) := by decide +kernel
theorem dd_28_77 : decode (mB 28) 77 = .ok (.getfield 15, 3) := by decide +kernel
theorem dd_28_80 : decode (mB 28) 80 = .ok (.iload 4, 2) := by decide +kernel
theorem dd_28_82 : decode (mB 28) 82 = .ok (.iaload, 1) := by decide +kernel
theorem dd_28_83 : decode (mB 28) 83 = .ok (.iaload, 1) := by decide +kernel
theorem dd_28_84 : decode (mB 28) 84 = .ok (.if_icmp .ge 18, 3) := by decide +kernel
theorem dd_28_87 : decode (mB 28) 87 = .ok (.aload_n 0, 1) := by decide +kernel
theorem dd_28_88 : decode (mB 28) 88 = .ok (.iload 5, 2) := by decide +kernel
theorem dd_28_90 : decode (mB 28) 90 = .ok (.iload 6, 2) := by decide +kernel
theorem dd_28_92 : decode (mB 28) 92 = .ok (.iadd, 1) := by decide +kernel
theorem dd_28_93 : decode (mB 28) 93 = .ok (.invokevirtual 66, 3) := by decide +kernel
theorem dd_28_96 : decode (mB 28) 96 = .ok (.iinc 6 1, 3) := by decide +kernel
theorem dd_28_99 : decode (mB 28) 99 = .ok (.goto (-32), 3) := by decide +kernel
theorem dd_28_102 : decode (mB 28) 102 = .ok (.iinc 4 1, 3) := by decide +kernel
theorem dd_28_105 : decode (mB 28) 105 = .ok (.goto (-62), 3) := by decide +kernel
theorem dd_28_108 : decode (mB 28) 108 = .ok (.return_, 1) := by decide +kernel
theorem dd_29_0 : decode (mB 29) 0 = .ok (.iconst 0, 1) := by decide +kernel
theorem dd_29_1 : decode (mB 29) 1 = .ok (.istore_n 2, 1) := by decide +kernel
theorem dd_29_2 : decode (mB 29) 2 = .ok (.iconst 0, 1) := by decide +kernel
theorem dd_29_3 : decode (mB 29) 3 = .ok (.istore_n 3, 1) := by decide +kernel
theorem dd_29_4 : decode (mB 29) 4 = .ok (.iload_n 3, 1) := by decide +kernel
theorem dd_29_5 : decode (mB 29) 5 = .ok (.aload_n 0, 1) := by decide +kernel
theorem dd_29_6 : decode (mB 29) 6 = .ok (.getfield 30, 3) := by decide +kernel
theorem dd_29_9 : decode (mB 29) 9 = .ok (.if_icmp .ge 25, 3) := by decide +kernel
theorem dd_29_12 : decode (mB 29) 12 = .ok (.aload_n 0, 1) := by decide +kernel
theorem dd_29_13 : decode (mB 29) 13 = .ok (.getfield 9, 3) := by decide +kernel
theorem dd_29_16 : decode (mB 29) 16 = .ok (.iload_n 3, 1) := by decide +kernel
theorem dd_29_17 : decode (mB 29) 17 = .ok (.iaload, 1) := by decide +kernel
theorem dd_29_18 : decode (mB 29) 18 = .ok (.iload_n 1, 1) := by decide +kernel
theorem dd_29_19 : decode (mB 29) 19 = .ok (.if_icmp .gt 9, 3) := by decide +kernel
theorem dd_29_22 : decode (mB 29) 22 = .ok (.iload_n 2, 1) := by decide +kernel
theorem dd_29_23 : decode (mB 29) 23 = .ok (.iconst 1, 1) := by decide +kernel
theorem dd_29_24 : decode (mB 29) 24 = .ok (.iload_n 3, 1) := by decide +kernel
theorem dd_29_25 : decode (mB 29) 25 = .ok (.ishl, 1) := by decide +kernel
theorem dd_29_26 : decode (mB 29) 26 = .ok (.ior, 1) := by decide +kernel
theorem dd_29_27 : decode (mB 29) 27 = .ok (.istore_n 2, 1) := by decide +kernel
theorem dd_29_28 : decode (mB 29) 28 = .ok (.iinc 3 1, 3) := by decide +kernel
theorem dd_29_31 : decode (mB 29) 31 = .ok (.goto (-27), 3) := by decide +kernel
theorem dd_29_34 : decode (mB 29) 34 = .ok (.iload_n 2, 1) := by decide +kernel
theorem dd_29_35 : decode (mB 29) 35 = .ok (.ireturn, 1) := by decide +kernel
theorem dd_30_0 : decode (mB 30) 0 = .ok (.iconst 0, 1) := by decide +kernel
theorem dd_30_1 : decode (mB 30) 1 = .ok (.istore_n 2, 1) := by decide +kernel
theorem dd_30_2 : decode (mB 30) 2 = .ok (.iconst 0, 1) := by decide +kernel
theorem dd_30_3 : decode (mB 30) 3 = .ok (.istore_n 3, 1) := by decide +kernel
theorem dd_30_4 : decode (mB 30) 4 = .ok (.aload_n 0, 1) := by decide +kernel
theorem dd_30_5 : decode (mB 30) 5 = .ok (.getfield 43, 3) := by decide +kernel
theorem dd_30_8 : decode (mB 30) 8 = .ok (.getfield 69, 3) := by decide +kernel
theorem dd_30_11 : decode (mB 30) 11 = .ok (.iconst 1, 1) := by decide +kernel
theorem dd_30_12 : decode (mB 30) 12 = .ok (.isub, 1) := by decide +kernel
theorem dd_30_13 : decode (mB 30) 13 = .ok (.istore 4, 2) := by decide +kernel
theorem dd_30_15 : decode (mB 30) 15 = .ok (.iload 4, 2) := by decide +kernel
theorem dd_30_17 : decode (mB 30) 17 = .ok (.ifCond .lt 41, 3) := by decide +kernel
theorem dd_30_20 : decode (mB 30) 20 = .ok (.iload_n 1, 1) := by decide +kernel
theorem dd_30_21 : decode (mB 30) 21 = .ok (.iload_n 3, 1) := by decide +kernel
theorem dd_30_22 : decode (mB 30) 22 = .ok (.iconst (-1), 1) := by decide +kernel
theorem dd_30_23 : decode (mB 30) 23 = .ok (.ixor, 1) := by decide +kernel
theorem dd_30_24 : decode (mB 30) 24 = .ok (.iand, 1) := by decide +kernel
theorem dd_30_25 : decode (mB 30) 25 = .ok (.iload 4, 2) := by decide +kernel
theorem dd_30_27 : decode (mB 30) 27 = .ok (.ishr, 1) := by decide +kernel
theorem dd_30_28 : decode (mB 30) 28 = .ok (.iconst 1, 1) := by decide +kernel
theorem dd_30_29 : decode (mB 30) 29 = .ok (.iand, 1) := by decide +kernel
theorem dd_30_30 : decode (mB 30) 30 = .ok (.ifCond .eq 22, 3) := by decide +kernel
theorem dd_30_33 : decode (mB 30) 33 = .ok (.iload_n 2, 1) := by decide +kernel
theorem dd_30_34 : decode (mB 30) 34 = .ok (.iconst 1, 1) := by decide +kernel
theorem dd_30_35 : decode (mB 30) 35 = .ok (.iload 4, 2) := by decide +kernel
theorem dd_30_37 : decode (mB 30) 37 = .ok (.ishl, 1) := by decide +kernel
theorem dd_30_38 : decode (mB 30) 38 = .ok (.ior, 1) := by decide +kernel
theorem dd_30_39 : decode (mB 30) 39 = .ok (.istore_n 2, 1) := by decide +kernel
theorem dd_30_40 : decode (mB 30) 40 = .ok (.iload_n 3, 1) := by decide +kernel
theorem dd_30_41 : decode (mB 30) 41 = .ok (.aload_n 0, 1) := by decide +kernel
theorem dd_30_42 : decode (mB 30) 42 = .ok (.getfield 43, 3) := by decide +kernel
theorem dd_30_45 : decode (mB 30) 45 = .ok (.iload 4, 2) := by decide +kernel
theorem dd_30_47 : decode (mB 30) 47 = .ok (.invokevirtual 72, 3) := by decide +kernel
theorem dd_30_50 : decode (mB 30) 50 = .ok (.ior, 1) := by decide +kernel
theorem dd_30_51 : decode (mB 30) 51 = .ok (.istore_n 3, 1) := by decide +kernel
theorem dd_30_52 : decode (mB 30) 52 = .ok (.iinc 4 (-1), 3) := by decide +kernel
theorem dd_30_55 : decode (mB 30) 55 = .ok (.goto (-40), 3) := by decide +kernel
theorem dd_30_58 : decode (mB 30) 58 = .ok (.iload_n 2, 1) := by decide +kernel
theorem dd_30_59 : decode (mB 30) 59 = .ok (.ireturn, 1) := by decide +kernel
theorem dd_31_0 : decode (mB 31) 0 = .ok (.iconst 0, 1) := by decide +kernel
theorem dd_31_1 : decode (mB 31) 1 = .ok (.istore_n 2, 1) := by decide +kernel
theorem dd_31_2 : decode (mB 31) 2 = .ok (.iload_n 1, 1) := by decide +kernel
theorem dd_31_3 : decode (mB 31) 3 = .ok (.ifCond .lt 11, 3) := by decide +kernel
theorem dd_31_6 : decode (mB 31) 6 = .ok (.iload_n 1, 1) := by decide +kernel
theorem dd_31_7 : decode (mB 31) 7 = .ok (.aload_n 0, 1) := by decide +kernel
theorem dd_31_8 : decode (mB 31) 8 = .ok (.getfield 30, 3) := by decide +kernel
theorem dd_31_11 : decode (mB 31) 11 = .ok (.if_icmp .lt 5, 3) := by decide +kernel
theorem dd_31_14 : decode (mB 31) 14 = .ok (.iload_n 2, 1) := by decide +kernel
theorem dd_31_15 : decode (mB 31) 15 = .ok (.ireturn, 1) := by decide +kernel
theorem dd_31_16 : decode (mB 31) 16 = .ok (.iconst 0, 1) := by decide +kernel
theorem dd_31_17 : decode (mB 31) 17 = .ok (.istore_n 3, 1) := by decide +kernel
theorem dd_31_18 : decode (mB 31) 18 = .ok (.iload_n 3, 1) := by decide +kernel
theorem dd_31_19 : decode (mB 31) 19 = .ok (.aload_n 0, 1) := by decide +kernel
theorem dd_31_20 : decode (mB 31) 20 = .ok (.getfield 15, 3) := by decide +kernel
theorem dd_31_23 : decode (mB 31) 23 = .ok (.iload_n 1, 1) := by decide +kernel
theorem dd_31_24 : decode (mB 31) 24 = .ok (.iaload, 1) := by decide +kernel
theorem dd_31_25 : decode (mB 31) 25 = .ok (.if_icmp .ge 41, 3) := by decide +kernel
theorem dd_31_28 : decode (mB 31) 28 = .ok (.aload_n 0, 1) := by decide +kernel
theorem dd_31_29 : decode (mB 31) 29 = .ok (.getfield 18, 3) := by decide +kernel
theorem dd_31_32 : decode (mB 31) 32 = .ok (.iload_n 1, 1) := by decide +kernel
theorem dd_31_33 : decode (mB 31) 33 = .ok (.bipush 10, 2) := by decide +kernel
theorem dd_31_35 : decode (mB 31) 35 = .ok (.imul, 1) := by decide +kernel
theorem dd_31_36 : decode (mB 31) 36 = .ok (.iload_n 3, 1) := by decide +kernel
theorem dd_31_37 : decode (mB 31) 37 = .ok (.iadd, 1) := by decide +kernel
theorem dd_31_38 : decode (mB 31) 38 = .ok (.iaload, 1) := by decide +kernel
theorem dd_31_39 : decode (mB 31) 39 = .ok (.bipush 8, 2) := by decide +kernel
theorem dd_31_41 : decode (mB 31) 41 = .ok (.if_icmp .ne 19, 3) := by decide +kernel
theorem dd_31_44 : decode (mB 31) 44 = .ok (.iload_n 2, 1) := by decide +kernel
theorem dd_31_45 : decode (mB 31) 45 = .ok (.iconst 1, 1) := by decide +kernel
theorem dd_31_46 : decode (mB 31) 46 = .ok (.aload_n 0, 1) := by decide +kernel
theorem dd_31_47 : decode (mB 31) 47 = .ok (.getfield 21, 3) := by decide +kernel
theorem dd_31_50 : decode (mB 31) 50 = .ok (.iload_n 1, 1) := by decide +kernel
theorem dd_31_51 : decode (mB 31) 51 = .ok (.bipush 10, 2) := by decide +kernel
theorem dd_31_53 : decode (mB 31) 53 = .ok (.imul, 1) := by decide +kernel
theorem dd_31_54 : decode (mB 31) 54 = .ok (.iload_n 3, 1) := by decide +kernel
theorem dd_31_55 : decode (mB 31) 55 = .ok (.iadd, 1) := by decide +kernel
theorem dd_31_56 : decode (mB 31) 56 = .ok (.iaload, 1) := by decide +kernel
theorem dd_31_57 : decode (mB 31) 57 = .ok (.ishl, 1) := by decide +kernel
theorem dd_31_58 : decode (mB 31) 58 = .ok (.ior, 1) := by decide +kernel
theorem dd_31_59 : decode (mB 31) 59 = .ok (.istore_n 2, 1) := by decide +kernel
theorem dd_31_60 : decode (mB 31) 60 = .ok (.iinc 3 1, 3) := by decide +kernel
theorem dd_31_63 : decode (mB 31) 63 = .ok (.goto (-45), 3) := by decide +kernel
theorem dd_31_66 : decode (mB 31) 66 = .ok (.iload_n 2, 1) := by decide +kernel
theorem dd_31_67 : decode (mB 31) 67 = .ok (.ireturn, 1) := by decide +kernel
theorem dd_32_0 : decode (mB 32) 0 = .ok (.aload_n 0, 1) := by decide +kernel
theorem dd_32_1 : decode (mB 32) 1 = .ok (.iconst 0, 1) := by decide +kernel
theorem dd_32_2 : decode (mB 32) 2 = .ok (.putfield 19, 3) := by decide +kernel
theorem dd_32_5 : decode (mB 32) 5 = .ok (.iconst 0, 1) := by decide +kernel
theorem dd_32_6 : decode (mB 32) 6 = .ok (.istore_n 2, 1) := by decide +kernel
theorem dd_32_7 : decode (mB 32) 7 = .ok (.iload_n 2, 1) := by decide +kernel
theorem dd_32_8 : decode (mB 32) 8 = .ok (.aload_n 0, 1) := by decide +kernel
theorem dd_32_9 : decode (mB 32) 9 = .ok (.getfield 43, 3) := by decide +kernel
theorem dd_32_12 : decode (mB 32) 12 = .ok (.getfield 69, 3) := by decide +kernel
theorem dd_32_15 : decode (mB 32) 15 = .ok (.if_icmp .ge 94, 3) := by decide +kernel
theorem dd_32_18 : decode (mB 32) 18 = .ok (.iload_n 1, 1) := by decide +kernel
theorem dd_32_19 : decode (mB 32) 19 = .ok (.iload_n 2, 1) := by decide +kernel
theorem dd_32_20 : decode (mB 32) 20 = .ok (.ishr, 1) := by decide +kernel
theorem dd_32_21 : decode (mB 32) 21 = .ok (.iconst 1, 1) := by decide +kernel
theorem dd_32_22 : decode (mB 32) 22 = .ok (.iand, 1) := by decide +kernel
theorem dd_32_23 : decode (mB 32) 23 = .ok (.ifCond .ne 6, 3) := by decide +kernel
theorem dd_32_26 : decode (mB 32) 26 = .ok (.goto 77, 3) := by decide +kernel
theorem dd_32_29 : decode (mB 32) 29 = .ok (.aload_n 0, 1) := by decide +kernel
theorem dd_32_30 : decode (mB 32) 30 = .ok (.getfield 19, 3) := by decide +kernel
theorem dd_32_33 : decode (mB 32) 33 = .ok (.istore_n 3, 1) := by decide +kernel
theorem dd_32_34 : decode (mB 32) 34 = .ok (.iload_n 3, 1) := by decide +kernel
theorem dd_32_35 : decode (mB 32) 35 = .ok (.ifCond .le 51, 3) := by decide +kernel
theorem dd_32_38 : decode (mB 32) 38 = .ok (.aload_n 0, 1) := by decide +kernel
theorem dd_32_39 : decode (mB 32) 39 = .ok (.getfield 43, 3) := by decide +kernel
theorem dd_32_42 : decode (mB 32) 42 = .ok (.getfield 75, 3) := by decide +kernel
theorem dd_32_45 : decode (mB 32) 45 = .ok (.aload_n 0, 1) := by decide +kernel
theorem dd_32_46 : decode (mB 32) 46 = .ok (.getfield 15, 3) := by decide +kernel
theorem dd_32_49 : decode (mB 32) 49 = .ok (.iload_n 3, 1) := by decide +kernel
theorem dd_32_50 : decode (mB 32) 50 = .ok (.iconst 1, 1) := by decide +kernel
theorem dd_32_51 : decode (mB 32) 51 = .ok (.isub, 1) := by decide +kernel
theorem dd_32_52 : decode (mB 32) 52 = .ok (.iaload, 1) := by decide +kernel
theorem dd_32_53 : decode (mB 32) 53 = .ok (.iaload, 1) := by decide +kernel
theorem dd_32_54 : decode (mB 32) 54 = .ok (.aload_n 0, 1) := by decide +kernel
theorem dd_32_55 : decode (mB 32) 55 = .ok (.getfield 43, 3) := by decide +kernel
theorem dd_32_58 : decode (mB 32) 58 = .ok (.getfield 75, 3) := by decide +kernel
theorem dd_32_61 : decode (mB 32) 61 = .ok (.iload_n 2, 1) := by decide +kernel
theorem dd_32_62 : decode (mB 32) 62 = .ok (.iaload, 1) := by decide +kernel
theorem dd_32_63 : decode (mB 32) 63 = .ok (.if_icmp .le 23, 3) := by decide +kernel
theorem dd_32_66 : decode (mB 32) 66 = .ok (.aload_n 0, 1) := by decide +kernel
theorem dd_32_67 : decode (mB 32) 67 = .ok (.getfield 15, 3) := by decide +kernel
theorem dd_32_70 : decode (mB 32) 70 = .ok (.iload_n 3, 1) := by decide +kernel
theorem dd_32_71 : decode (mB 32) 71 = .ok (.aload_n 0, 1) := by decide +kernel
theorem dd_32_72 : decode (mB 32) 72 = .ok (.getfield 15, 3) := by decide +kernel
theorem dd_32_75 : decode (mB 32) 75 = .ok (.iload_n 3, 1) := by decide +kernel
theorem dd_32_76 : decode (mB 32) 76 = .ok (.iconst 1, 1) := by decide +kernel
theorem dd_32_77 : decode (mB 32) 77 = .ok (.isub, 1) := by decide +kernel
theorem dd_32_78 : decode (mB 32) 78 = .ok (.iaload, 1) := by decide +kernel
theorem dd_32_79 : decode (mB 32) 79 = .ok (.iastore, 1) := by decide +kernel
theorem dd_32_80 : decode (mB 32) 80 = .ok (.iinc 3 (-1), 3) := by decide +kernel
theorem dd_32_83 : decode (mB 32) 83 = .ok (.goto (-49), 3) := by decide +kernel
theorem dd_32_86 : decode (mB 32) 86 = .ok (.aload_n 0, 1) := by decide +kernel
theorem dd_32_87 : decode (mB 32) 87 = .ok (.getfield 15, 3) := by decide +kernel
theorem dd_32_90 : decode (mB 32) 90 = .ok (.iload_n 3, 1) := by decide +kernel
theorem dd_32_91 : decode (mB 32) 91 = .ok (.iload_n 2, 1) := by decide +kernel
theorem dd_32_92 : decode (mB 32) 92 = .ok (.iastore, 1) := by decide +kernel
theorem dd_32_93 : decode (mB 32) 93 = .ok (.aload_n 0, 1) := by decide +kernel
theorem dd_32_94 : decode (mB 32) 94 = .ok (.dup, 1) := by decide +kernel
theorem dd_32_95 : decode (mB 32) 95 = .ok (.getfield 19, 3) := by decide +kernel
theorem dd_32_98 : decode (mB 32) 98 = .ok (.iconst 1, 1) := by decide +kernel
theorem dd_32_99 : decode (mB 32) 99 = .ok (.iadd, 1) := by decide +kernel
theorem dd_32_100 : decode (mB 32) 100 = .ok (.putfield 19, 3) := by decide +kernel
theorem dd_32_103 : decode (mB 32) 103 = .ok (.iinc 2 1, 3) := by decide +kernel
theorem dd_32_106 : decode (mB 32) 106 = .ok (.goto (-99), 3) := by decide +kernel
theorem dd_32_109 : decode (mB 32) 109 = .ok (.return_, 1) := by decide +kernel
theorem dd_33_0 : decode (mB 33) 0 = .ok (.aload_n 0, 1) := by decide +kernel
theorem dd_33_1 : decode (mB 33) 1 = .ok (.iconst 2, 1) := by decide +kernel
theorem dd_33_2 : decode (mB 33) 2 = .ok (.putfield 22, 3) := by decide +kernel
theorem dd_33_5 : decode (mB 33) 5 = .ok (.aload_n 0, 1) := by decide +kernel
theorem dd_33_6 : decode (mB 33) 6 = .ok (.iconst 0, 1) := by decide +kernel
theorem dd_33_7 : decode (mB 33) 7 = .ok (.putfield 25, 3) := by decide +kernel
theorem dd_33_10 : decode (mB 33) 10 = .ok (.aload_n 0, 1) := by decide +kernel
theorem dd_33_11 : decode (mB 33) 11 = .ok (.iconst 5, 1) := by decide +kernel
theorem dd_33_12 : decode (mB 33) 12 = .ok (.putfield 28, 3) := by decide +kernel
theorem dd_33_15 : decode (mB 33) 15 = .ok (.aload_n 0, 1) := by decide +kernel
theorem dd_33_16 : decode (mB 33) 16 = .ok (.bipush 6, 2) := by decide +kernel
theorem dd_33_18 : decode (mB 33) 18 = .ok (.putfield 31, 3) := by decide +kernel
theorem dd_33_21 : decode (mB 33) 21 = .ok (.aload_n 0, 1) := by decide +kernel
theorem dd_33_22 : decode (mB 33) 22 = .ok (.bipush 50, 2) := by decide +kernel
theorem dd_33_24 : decode (mB 33) 24 = .ok (.putfield 34, 3) := by decide +kernel
theorem dd_33_27 : decode (mB 33) 27 = .ok (.aload_n 0, 1) := by decide +kernel
theorem dd_33_28 : decode (mB 33) 28 = .ok (.iconst 3, 1) := by decide +kernel
theorem dd_33_29 : decode (mB 33) 29 = .ok (.putfield 37, 3) := by decide +kernel
theorem dd_33_32 : decode (mB 33) 32 = .ok (.aload_n 0, 1) := by decide +kernel
theorem dd_33_33 : decode (mB 33) 33 = .ok (.getfield 40, 3) := by decide +kernel
theorem dd_33_36 : decode (mB 33) 36 = .ok (.iconst 0, 1) := by decide +kernel
theorem dd_33_37 : decode (mB 33) 37 = .ok (.iconst 0, 1) := by decide +kernel
theorem dd_33_38 : decode (mB 33) 38 = .ok (.iastore, 1) := by decide +kernel
theorem dd_33_39 : decode (mB 33) 39 = .ok (.aload_n 0, 1) := by decide +kernel
theorem dd_33_40 : decode (mB 33) 40 = .ok (.getfield 40, 3) := by decide +kernel
theorem dd_33_43 : decode (mB 33) 43 = .ok (.iconst 1, 1) := by decide +kernel
theorem dd_33_44 : decode (mB 33) 44 = .ok (.iconst 1, 1) := by decide +kernel
theorem dd_33_45 : decode (mB 33) 45 = .ok (.iastore, 1) := by decide +kernel
theorem dd_33_46 : decode (mB 33) 46 = .ok (.aload_n 0, 1) := by decide +kernel
theorem dd_33_47 : decode (mB 33) 47 = .ok (.getfield 40, 3) := by decide +kernel
theorem dd_33_50 : decode (mB 33) 50 = .ok (.iconst 2, 1) := by decide +kernel
theorem dd_33_51 : decode (mB 33) 51 = .ok (.iconst 2, 1) := by decide +kernel
theorem dd_33_52 : decode (mB 33) 52 = .ok (.iastore, 1) := by decide +kernel
theorem dd_33_53 : decode (mB 33) 53 = .ok (.return_, 1) := by decide +kernel
theorem dd_34_0 : decode (mB 34) 0 = .ok (.aload_n 0, 1) := by decide +kernel
theorem dd_34_1 : decode (mB 34) 1 = .ok (.getfield 43, 3) := by decide +kernel
theorem dd_34_4 : decode (mB 34) 4 = .ok (.getfield 78, 3) := by decide +kernel
theorem dd_34_7 : decode (mB 34) 7 = .ok (.iload_n 1, 1) := by decide +kernel
theorem dd_34_8 : decode (mB 34) 8 = .ok (.iaload, 1) := by decide +kernel
theorem dd_34_9 : decode (mB 34) 9 = .ok (.istore_n 2, 1) := by decide +kernel
theorem dd_34_10 : decode (mB 34) 10 = .ok (.aload_n 0, 1) := by decide +kernel
theorem dd_34_11 : decode (mB 34) 11 = .ok (.getfield 43, 3) := by decide +kernel
theorem dd_34_14 : decode (mB 34) 14 = .ok (.getfield 81, 3) := by decide +kernel
theorem dd_34_17 : decode (mB 34) 17 = .ok (.iload_n 1, 1) := by decide +kernel
theorem dd_34_18 : decode (mB 34) 18 = .ok (.iaload, 1) := by decide +kernel
theorem dd_34_19 : decode (mB 34) 19 = .ok (.tableswitch 102 0 7 #[45, 62, 70, 78, 86, 102, 102, 94], 45) := by decide +kernel
theorem dd_34_64 : decode (mB 34) 64 = .ok (.aload_n 0, 1) := by decide +kernel
theorem dd_34_65 : decode (mB 34) 65 = .ok (.iload_n 2, 1) := by decide +kernel
theorem dd_34_66 : decode (mB 34) 66 = .ok (.aload_n 0, 1) := by decide +kernel
theorem dd_34_67 : decode (mB 34) 67 = .ok (.getfield 43, 3) := by decide +kernel
theorem dd_34_70 : decode (mB 34) 70 = .ok (.getfield 84, 3) := by decide +kernel
theorem dd_34_73 : decode (mB 34) 73 = .ok (.iload_n 1, 1) := by decide +kernel
theorem dd_34_74 : decode (mB 34) 74 = .ok (.iaload, 1) := by decide +kernel
theorem dd_34_75 : decode (mB 34) 75 = .ok (.invokevirtual 87, 3) := by decide +kernel
theorem dd_34_78 : decode (mB 34) 78 = .ok (.goto 43, 3) := by decide +kernel
theorem dd_34_81 : decode (mB 34) 81 = .ok (.aload_n 0, 1) := by decide +kernel
theorem dd_34_82 : decode (mB 34) 82 = .ok (.iload_n 2, 1) := by decide +kernel
theorem dd_34_83 : decode (mB 34) 83 = .ok (.putfield 22, 3) := by decide +kernel
theorem dd_34_86 : decode (mB 34) 86 = .ok (.goto 35, 3) := by decide +kernel
theorem dd_34_89 : decode (mB 34) 89 = .ok (.aload_n 0, 1) := by decide +kernel
theorem dd_34_90 : decode (mB 34) 90 = .ok (.iload_n 2, 1) := by decide +kernel
theorem dd_34_91 : decode (mB 34) 91 = .ok (.putfield 25, 3) := by decide +kernel
theorem dd_34_94 : decode (mB 34) 94 = .ok (.goto 27, 3) := by decide +kernel
theorem dd_34_97 : decode (mB 34) 97 = .ok (.aload_n 0, 1) := by decide +kernel
theorem dd_34_98 : decode (mB 34) 98 = .ok (.iload_n 2, 1) := by decide +kernel
theorem dd_34_99 : decode (mB 34) 99 = .ok (.putfield 28, 3) := by decide +kernel
theorem dd_34_102 : decode (mB 34) 102 = .ok (.goto 19, 3) := by decide +kernel
theorem dd_34_105 : decode (mB 34) 105 = .ok (.aload_n 0, 1) := by decide +kernel
theorem dd_34_106 : decode (mB 34) 106 = .ok (.iload_n 2, 1) := by decide +kernel
theorem dd_34_107 : decode (mB 34) 107 = .ok (.putfield 31, 3) := by decide +kernel
theorem dd_34_110 : decode (mB 34) 110 = .ok (.goto 11, 3) := by decide +kernel
theorem dd_34_113 : decode (mB 34) 113 = .ok (.aload_n 0, 1) := by decide +kernel
theorem dd_34_114 : decode (mB 34) 114 = .ok (.iload_n 2, 1) := by decide +kernel
theorem dd_34_115 : decode (mB 34) 115 = .ok (.putfield 34, 3) := by decide +kernel
theorem dd_34_118 : decode (mB 34) 118 = .ok (.goto 3, 3) := by decide +kernel
theorem dd_34_121 : decode (mB 34) 121 = .ok (.return_, 1) := by decide +kernel
theorem dd_35_0 : decode (mB 35) 0 = .ok (.aload_n 0, 1) := by decide +kernel
theorem dd_35_1 : decode (mB 35) 1 = .ok (.iload_n 1, 1) := by decide +kernel
theorem dd_35_2 : decode (mB 35) 2 = .ok (.iconst 5, 1) := by decide +kernel
theorem dd_35_3 : decode (mB 35) 3 = .ok (.invokestatic 91, 3) := by decide +kernel
theorem dd_35_6 : decode (mB 35) 6 = .ok (.putfield 37, 3) := by decide +kernel
theorem dd_35_9 : decode (mB 35) 9 = .ok (.iconst 0, 1) := by decide +kernel
theorem dd_35_10 : decode (mB 35) 10 = .ok (.istore_n 3, 1) := by decide +kernel
theorem dd_35_11 : decode (mB 35) 11 = .ok (.iload_n 3, 1) := by decide +kernel
theorem dd_35_12 : decode (mB 35) 12 = .ok (.aload_n 0, 1) := by decide +kernel
theorem dd_35_13 : decode (mB 35) 13 = .ok (.getfield 37, 3) := by decide +kernel
theorem dd_35_16 : decode (mB 35) 16 = .ok (.if_icmp .ge 23, 3) := by decide +kernel
theorem dd_35_19 : decode (mB 35) 19 = .ok (.aload_n 0, 1) := by decide +kernel
theorem dd_35_20 : decode (mB 35) 20 = .ok (.getfield 40, 3) := by decide +kernel
theorem dd_35_23 : decode (mB 35) 23 = .ok (.iload_n 3, 1) := by decide +kernel
theorem dd_35_24 : decode (mB 35) 24 = .ok (.iload_n 2, 1) := by decide +kernel
theorem dd_35_25 : decode (mB 35) 25 = .ok (.iconst 3, 1) := by decide +kernel
theorem dd_35_26 : decode (mB 35) 26 = .ok (.iload_n 3, 1) := by decide +kernel
theorem dd_35_27 : decode (mB 35) 27 = .ok (.imul, 1) := by decide +kernel
theorem dd_35_28 : decode (mB 35) 28 = .ok (.ishr, 1) := by decide +kernel
theorem dd_35_29 : decode (mB 35) 29 = .ok (.bipush 7, 2) := by decide +kernel
theorem dd_35_31 : decode (mB 35) 31 = .ok (.iand, 1) := by decide +kernel
theorem dd_35_32 : decode (mB 35) 32 = .ok (.iastore, 1) := by decide +kernel
theorem dd_35_33 : decode (mB 35) 33 = .ok (.iinc 3 1, 3) := by decide +kernel
theorem dd_35_36 : decode (mB 35) 36 = .ok (.goto (-25), 3) := by decide +kernel
theorem dd_35_39 : decode (mB 35) 39 = .ok (.return_, 1) := by decide +kernel
theorem dd_36_0 : decode (mB 36) 0 = .ok (.aload_n 0, 1) := by decide +kernel
theorem dd_36_1 : decode (mB 36) 1 = .ok (.getfield 40, 3) := by decide +kernel
theorem dd_36_4 : decode (mB 36) 4 = .ok (.iconst 4, 1) := by decide +kernel
theorem dd_36_5 : decode (mB 36) 5 = .ok (.if_icmp .ne 15, 3) := by decide +kernel
theorem dd_36_8 : decode (mB 36) 8 = .ok (.aload_n 0, 1) := by decide +kernel
theorem dd_36_9 : decode (mB 36) 9 = .ok (.getfield 46, 3) := by decide +kernel
theorem dd_36_12 : decode (mB 36) 12 = .ok (.aload_n 0, 1) := by decide +kernel
theorem dd_36_13 : decode (mB 36) 13 = .ok (.getfield 43, 3) := by decide +kernel
theorem dd_36_16 : decode (mB 36) 16 = .ok (.isub, 1) := by decide +kernel
theorem dd_36_17 : decode (mB 36) 17 = .ok (.goto 7, 3) := by decide +kernel
theorem dd_36_20 : decode (mB 36) 20 = .ok (.aload_n 0, 1) := by decide +kernel
theorem dd_36_21 : decode (mB 36) 21 = .ok (.getfield 18, 3) := by decide +kernel
theorem dd_36_24 : decode (mB 36) 24 = .ok (.ireturn, 1) := by decide +kernel
theorem dd_37_0 : decode (mB 37) 0 = .ok (.iload_n 0, 1) := by decide +kernel
theorem dd_37_1 : decode (mB 37) 1 = .ok (.bipush 15, 2) := by decide +kernel
theorem dd_37_3 : decode (mB 37) 3 = .ok (.iushr, 1) := by decide +kernel
theorem dd_37_4 : decode (mB 37) 4 = .ok (.sipush 1023, 3) := by decide +kernel
theorem dd_37_7 : decode (mB 37) 7 = .ok (.iand, 1) := by decide +kernel
theorem dd_37_8 : decode (mB 37) 8 = .ok (.ireturn, 1) := by decide +kernel
theorem dd_38_0 : decode (mB 38) 0 = .ok (.bipush 10, 2) := by decide +kernel
theorem dd_38_2 : decode (mB 38) 2 = .ok (.istore_n 2, 1) := by decide +kernel
theorem dd_38_3 : decode (mB 38) 3 = .ok (.sipush 1000, 3) := by decide +kernel
theorem dd_38_6 : decode (mB 38) 6 = .ok (.istore_n 3, 1) := by decide +kernel
theorem dd_38_7 : decode (mB 38) 7 = .ok (.iconst 0, 1) := by decide +kernel
theorem dd_38_8 : decode (mB 38) 8 = .ok (.istore 4, 2) := by decide +kernel
theorem dd_38_10 : decode (mB 38) 10 = .ok (.iload 4, 2) := by decide +kernel
theorem dd_38_12 : decode (mB 38) 12 = .ok (.aload_n 0, 1) := by decide +kernel
theorem dd_38_13 : decode (mB 38) 13 = .ok (.getfield 19, 3) := by decide +kernel
theorem dd_38_16 : decode (mB 38) 16 = .ok (.if_icmp .ge 106, 3) := by decide +kernel
theorem dd_38_19 : decode (mB 38) 19 = .ok (.aload_n 0, 1) := by decide +kernel
theorem dd_38_20 : decode (mB 38) 20 = .ok (.getfield 15, 3) := by decide +kernel
theorem dd_38_23 : decode (mB 38) 23 = .ok (.iload 4, 2) := by decide +kernel
theorem dd_38_25 : decode (mB 38) 25 = .ok (.iaload, 1) := by decide +kernel
theorem dd_38_26 : decode (mB 38) 26 = .ok (.bipush 10, 2) := by decide +kernel
theorem dd_38_28 : decode (mB 38) 28 = .ok (.imul, 1) := by decide +kernel
theorem dd_38_29 : decode (mB 38) 29 = .ok (.istore 5, 2) := by decide +kernel
theorem dd_38_31 : decode (mB 38) 31 = .ok (.iload 5, 2) := by decide +kernel
theorem dd_38_33 : decode (mB 38) 33 = .ok (.istore 6, 2) := by decide +kernel
theorem dd_38_35 : decode (mB 38) 35 = .ok (.iload 6, 2) := by decide +kernel
theorem dd_38_37 : decode (mB 38) 37 = .ok (.iload 5, 2) := by decide +kernel
theorem dd_38_39 : decode (mB 38) 39 = .ok (.aload_n 0, 1) := by decide +kernel
theorem dd_38_40 : decode (mB 38) 40 = .ok (.getfield 43, 3) := by decide +kernel
theorem dd_38_43 : decode (mB 38) 43 = .ok (.getfield 63, 3) := by decide +kernel
theorem dd_38_46 : decode (mB 38) 46 = .ok (.aload_n 0, 1) := by decide +kernel
theorem dd_38_47 : decode (mB 38) 47 = .ok (.getfield 15, 3) := by decide +kernel
theorem dd_38_50 : decode (mB 38) 50 = .ok (.iload 4, 2) := by decide +kernel
theorem dd_38_52 : decode (mB 38) 52 = .ok (.iaload, 1) := by decide +kernel
theorem dd_38_53 : decode (mB 38) 53 = .ok (.iaload, 1) := by decide +kernel
theorem dd_38_54 : decode (mB 38) 54 = .ok (.iadd, 1) := by decide +kernel
theorem dd_38_55 : decode (mB 38) 55 = .ok (.if_icmp .ge 61, 3) := by decide +kernel
theorem dd_38_58 : decode (mB 38) 58 = .ok (.aload_n 0, 1) := by decide +kernel
theorem dd_38_59 : decode (mB 38) 59 = .ok (.getfield 43, 3) := by decide +kernel
theorem dd_38_62 : decode (mB 38) 62 = .ok (.getfield 84, 3) := by decide +kernel
theorem dd_38_65 : decode (mB 38) 65 = .ok (.iload 6, 2) := by decide +kernel
theorem dd_38_67 : decode (mB 38) 67 = .ok (.iaload, 1) := by decide +kernel
theorem dd_38_68 : decode (mB 38) 68 = .ok (.istore 7, 2) := by decide +kernel
theorem dd_38_70 : decode (mB 38) 70 = .ok (.aload_n 0, 1) := by decide +kernel
theorem dd_38_71 : decode (mB 38) 71 = .ok (.getfield 43, 3) := by decide +kernel
theorem dd_38_74 : decode (mB 38) 74 = .ok (.getfield 81, 3) := by decide +kernel
theorem dd_38_77 : decode (mB 38) 77 = .ok (.iload 6, 2) := by decide +kernel
theorem dd_38_79 : decode (mB 38) 79 = .ok (.iaload, 1) := by decide +kernel
theorem dd_38_80 : decode (mB 38) 80 = .ok (.iconst 5, 1) := by decide +kernel
theorem dd_38_81 : decode (mB 38) 81 = .ok (.if_icmp .ne 29, 3) := by decide +kernel
theorem dd_38_84 : decode (mB 38) 84 = .ok (.iload 7, 2) := by decide +kernel
theorem dd_38_86 : decode (mB 38) 86 = .ok (.iload_n 1, 1) := by decide +kernel
theorem dd_38_87 : decode (mB 38) 87 = .ok (.if_icmp .lt 23, 3) := by decide +kernel
theorem dd_38_90 : decode (mB 38) 90 = .ok (.iload 7, 2) := by decide +kernel
theorem dd_38_92 : decode (mB 38) 92 = .ok (.iload_n 3, 1) := by decide +kernel
theorem dd_38_93 : decode (mB 38) 93 = .ok (.if_icmp .gt 17, 3) := by decide +kernel
theorem dd_38_96 : decode (mB 38) 96 = .ok (.iload 7, 2) := by decide +kernel
theorem dd_38_98 : decode (mB 38) 98 = .ok (.istore_n 3, 1) := by decide +kernel
theorem dd_38_99 : decode (mB 38) 99 = .ok (.aload_n 0, 1) := by decide +kernel
theorem dd_38_100 : decode (mB 38) 100 = .ok (.getfield 43, 3) := by decide +kernel
theorem dd_38_103 : decode (mB 38) 103 = .ok (.getfield 78, 3) := by decide +kernel
theorem dd_38_106 : decode (mB 38) 106 = .ok (.iload 6, 2) := by decide +kernel
theorem dd_38_108 : decode (mB 38) 108 = .ok (.iaload, 1) := by decide +kernel
theorem dd_38_109 : decode (mB 38) 109 = .ok (.istore_n 2, 1) := by decide +kernel
theorem dd_38_110 : decode (mB 38) 110 = .ok (.iinc 6 1, 3) := by decide +kernel
theorem dd_38_113 : decode (mB 38) 113 = .ok (.goto (-78), 3) := by decide +kernel
theorem dd_38_116 : decode (mB 38) 116 = .ok (.iinc 4 1, 3) := by decide +kernel
theorem dd_38_119 : decode (mB 38) 119 = .ok (.goto (-109), 3) := by decide +kernel
theorem dd_38_122 : decode (mB 38) 122 = .ok (.iload_n 2, 1) := by decide +kernel
theorem dd_38_123 : decode (mB 38) 123 = .ok (.ireturn, 1) := by decide +kernel
theorem dd_39_0 : decode (mB 39) 0 = .ok (.bipush 100, 2) := by decide +kernel
theorem dd_39_2 : decode (mB 39) 2 = .ok (.istore_n 2, 1) := by decide +kernel
theorem dd_39_3 : decode (mB 39) 3 = .ok (.iconst 0, 1) := by decide +kernel
theorem dd_39_4 : decode (mB 39) 4 = .ok (.istore_n 3, 1) := by decide +kernel
theorem dd_39_5 : decode (mB 39) 5 = .ok (.iload_n 3, 1) := by decide +kernel
theorem dd_39_6 : decode (mB 39) 6 = .ok (.aload_n 0, 1) := by decide +kernel
theorem dd_39_7 : decode (mB 39) 7 = .ok (.getfield 19, 3) := by decide +kernel
theorem dd_39_10 : decode (mB 39) 10 = .ok (.if_icmp .ge 105, 3) := by decide +kernel
theorem dd_39_13 : decode (mB 39) 13 = .ok (.aload_n 0, 1) := by decide +kernel
theorem dd_39_14 : decode (mB 39) 14 = .ok (.getfield 15, 3) := by decide +kernel
theorem dd_39_17 : decode (mB 39) 17 = .ok (.iload_n 3, 1) := by decide +kernel
theorem dd_39_18 : decode (mB 39) 18 = .ok (.iaload, 1) := by decide +kernel
theorem dd_39_19 : decode (mB 39) 19 = .ok (.bipush 10, 2) := by decide +kernel
theorem dd_39_21 : decode (mB 39) 21 = .ok (.imul, 1) := by decide +kernel
theorem dd_39_22 : decode (mB 39) 22 = .ok (.istore 4, 2) := by decide +kernel
theorem dd_39_24 : decode (mB 39) 24 = .ok (.iload 4, 2) := by decide +kernel
theorem dd_39_26 : decode (mB 39) 26 = .ok (.istore 5, 2) := by decide +kernel
theorem dd_39_28 : decode (mB 39) 28 = .ok (.iload 5, 2) := by decide +kernel
theorem dd_39_30 : decode (mB 39) 30 = .ok (.iload 4, 2) := by decide +kernel
theorem dd_39_32 : decode (mB 39) 32 = .ok (.aload_n 0, 1) := by decide +kernel
theorem dd_39_33 : decode (mB 39) 33 = .ok (.getfield 43, 3) := by decide +kernel
theorem dd_39_36 : decode (mB 39) 36 = .ok (.getfield 63, 3) := by decide +kernel
theorem dd_39_39 : decode (mB 39) 39 = .ok (.aload_n 0, 1) := by decide +kernel
theorem dd_39_40 : decode (mB 39) 40 = .ok (.getfield 15, 3) := by decide +kernel
theorem dd_39_43 : decode (mB 39) 43 = .ok (.iload_n 3, 1) := by decide +kernel
theorem dd_39_44 : decode (mB 39) 44 = .ok (.iaload, 1) := by decide +kernel
theorem dd_39_45 : decode (mB 39) 45 = .ok (.iaload, 1) := by decide +kernel
theorem dd_39_46 : decode (mB 39) 46 = .ok (.iadd, 1) := by decide +kernel
theorem dd_39_47 : decode (mB 39) 47 = .ok (.if_icmp .ge 62, 3) := by decide +kernel
theorem dd_39_50 : decode (mB 39) 50 = .ok (.aload_n 0, 1) := by decide +kernel
theorem dd_39_51 : decode (mB 39) 51 = .ok (.getfield 43, 3) := by decide +kernel
theorem dd_39_54 : decode (mB 39) 54 = .ok (.getfield 81, 3) := by decide +kernel
theorem dd_39_57 : decode (mB 39) 57 = .ok (.iload 5, 2) := by decide +kernel
theorem dd_39_59 : decode (mB 39) 59 = .ok (.iaload, 1) := by decide +kernel
theorem dd_39_60 : decode (mB 39) 60 = .ok (.bipush 6, 2) := by decide +kernel
theorem dd_39_62 : decode (mB 39) 62 = .ok (.if_icmp .ne 41, 3) := by decide +kernel
theorem dd_39_65 : decode (mB 39) 65 = .ok (.iload_n 1, 1) := by decide +kernel
theorem dd_39_66 : decode (mB 39) 66 = .ok (.aload_n 0, 1) := by decide +kernel
theorem dd_39_67 : decode (mB 39) 67 = .ok (.getfield 43, 3) := by decide +kernel
theorem dd_39_70 : decode (mB 39) 70 = .ok (.getfield 78, 3) := by decide +kernel
theorem dd_39_73 : decode (mB 39) 73 = .ok (.iload 5, 2) := by decide +kernel
theorem dd_39_75 : decode (mB 39) 75 = .ok (.iaload, 1) := by decide +kernel
theorem dd_39_76 : decode (mB 39) 76 = .ok (.aload_n 0, 1) := by decide +kernel
theorem dd_39_77 : decode (mB 39) 77 = .ok (.getfield 43, 3) := by decide +kernel
theorem dd_39_80 : decode (mB 39) 80 = .ok (.getfield 84, 3) := by decide +kernel
theorem dd_39_83 : decode (mB 39) 83 = .ok (.iload 5, 2) := by decide +kernel
theorem dd_39_85 : decode (mB 39) 85 = .ok (.iaload, 1) := by decide +kernel
theorem dd_39_86 : decode (mB 39) 86 = .ok (.invokestatic 97, 3) := by decide +kernel
theorem dd_39_89 : decode (mB 39) 89 = .ok (.ifCond .eq 14, 3) := by decide +kernel
theorem dd_39_92 : decode (mB 39) 92 = .ok (.aload_n 0, 1) := by decide +kernel
theorem dd_39_93 : decode (mB 39) 93 = .ok (.getfield 43, 3) := by decide +kernel
theorem dd_39_96 : decode (mB 39) 96 = .ok (.getfield 101, 3) := by decide +kernel
theorem dd_39_99 : decode (mB 39) 99 = .ok (.iload 5, 2) := by decide +kernel
theorem dd_39_101 : decode (mB 39) 101 = .ok (.iaload, 1) := by decide +kernel
theorem dd_39_102 : decode (mB 39) 102 = .ok (.istore_n 2, 1) := by decide +kernel
theorem dd_39_103 : decode (mB 39) 103 = .ok (.iinc 5 1, 3) := by decide +kernel
theorem dd_39_106 : decode (mB 39) 106 = .ok (.goto (-78), 3) := by decide +kernel
theorem dd_39_109 : decode (mB 39) 109 = .ok (.iinc 3 1, 3) := by decide +kernel
theorem dd_39_112 : decode (mB 39) 112 = .ok (.goto (-107), 3) := by decide +kernel
theorem dd_39_115 : decode (mB 39) 115 = .ok (.iload_n 2, 1) := by decide +kernel
theorem dd_39_116 : decode (mB 39) 116 = .ok (.ireturn, 1) := by decide +kernel
theorem dd_40_0 : decode (mB 40) 0 = .ok (.iconst 0, 1) := by decide +kernel
theorem dd_40_1 : decode (mB 40) 1 = .ok (.istore_n 2, 1) := by decide +kernel
theorem dd_40_2 : decode (mB 40) 2 = .ok (.iconst 0, 1) := by decide +kernel
theorem dd_40_3 : decode (mB 40) 3 = .ok (.istore_n 3, 1) := by decide +kernel
theorem dd_40_4 : decode (mB 40) 4 = .ok (.iload_n 3, 1) := by decide +kernel
theorem dd_40_5 : decode (mB 40) 5 = .ok (.aload_n 0, 1) := by decide +kernel
theorem dd_40_6 : decode (mB 40) 6 = .ok (.getfield 17, 3) := by decide +kernel
theorem dd_40_9 : decode (mB 40) 9 = .ok (.if_icmp .ge 25, 3) := by decide +kernel
theorem dd_40_12 : decode (mB 40) 12 = .ok (.aload_n 0, 1) := by decide +kernel
theorem dd_40_13 : decode (mB 40) 13 = .ok (.getfield 11, 3) := by decide +kernel
theorem dd_40_16 : decode (mB 40) 16 = .ok (.iload_n 3, 1) := by decide +kernel
theorem dd_40_17 : decode (mB 40) 17 = .ok (.aaload, 1) := by decide +kernel
theorem dd_40_18 : decode (mB 40) 18 = .ok (.getfield 75, 3) := by decide +kernel
theorem dd_40_21 : decode (mB 40) 21 = .ok (.iload_n 1, 1) := by decide +kernel
theorem dd_40_22 : decode (mB 40) 22 = .ok (.if_icmp .ne 6, 3) := by decide +kernel
theorem dd_40_25 : decode (mB 40) 25 = .ok (.iinc 2 1, 3) := by decide +kernel
theorem dd_40_28 : decode (mB 40) 28 = .ok (.iinc 3 1, 3) := by decide +kernel
theorem dd_40_31 : decode (mB 40) 31 = .ok (.goto (-27), 3) := by decide +kernel
theorem dd_40_34 : decode (mB 40) 34 = .ok (.iload_n 2, 1) := by decide +kernel
theorem dd_40_35 : decode (mB 40) 35 = .ok (.ireturn, 1) := by decide +kernel
theorem dd_41_0 : decode (mB 41) 0 = .ok (.iload_n 1, 1) := by decide +kernel
theorem dd_41_1 : decode (mB 41) 1 = .ok (.invokestatic 83, 3) := by decide +kernel
theorem dd_41_4 : decode (mB 41) 4 = .ok (.ifCond .eq 10, 3) := by decide +kernel
theorem dd_41_7 : decode (mB 41) 7 = .ok (.iload_n 2, 1) := by decide +kernel
theorem dd_41_8 : decode (mB 41) 8 = .ok (.invokestatic 83, 3) := by decide +kernel
theorem dd_41_11 : decode (mB 41) 11 = .ok (.ifCond .ne 6, 3) := by decide +kernel
theorem dd_41_14 : decode (mB 41) 14 = .ok (.ldc 87, 2) := by decide +kernel
theorem dd_41_16 : decode (mB 41) 16 = .ok (.ireturn, 1) := by decide +kernel
theorem dd_41_17 : decode (mB 41) 17 = .ok (.iload_n 1, 1) := by decide +kernel
theorem dd_41_18 : decode (mB 41) 18 = .ok (.iload_n 2, 1) := by decide +kernel
theorem dd_41_19 : decode (mB 41) 19 = .ok (.if_icmp .eq 47, 3) := by decide +kernel
theorem dd_41_22 : decode (mB 41) 22 = .ok (.iload_n 3, 1) := by decide +kernel
theorem dd_41_23 : decode (mB 41) 23 = .ok (.iconst 1, 1) := by decide +kernel
theorem dd_41_24 : decode (mB 41) 24 = .ok (.bipush 60, 2) := by decide +kernel
theorem dd_41_26 : decode (mB 41) 26 = .ok (.invokestatic 88, 3) := by decide +kernel
theorem dd_41_29 : decode (mB 41) 29 = .ok (.ifCond .eq 37, 3) := by decide +kernel
theorem dd_41_32 : decode (mB 41) 32 = .ok (.iload 4, 2) := by decide +kernel
theorem dd_41_34 : decode (mB 41) 34 = .ok (.iconst 0, 1) := by decide +kernel
theorem dd_41_35 : decode (mB 41) 35 = .ok (.iconst 2, 1) := by decide +kernel
theorem dd_41_36 : decode (mB 41) 36 = .ok (.invokestatic 88, 3) := by decide +kernel
theorem dd_41_39 : decode (mB 41) 39 = .ok (.ifCond .eq 27, 3) := by decide +kernel
theorem dd_41_42 : decode (mB 41) 42 = .ok (.iload 4, 2) := by decide +kernel
theorem dd_41_44 : decode (mB 41) 44 = .ok (.iconst 2, 1) := by decide +kernel
theorem dd_41_45 : decode (mB 41) 45 = .ok (.if_icmp .ne 24, 3) := by decide +kernel
theorem dd_41_48 : decode (mB 41) 48 = .ok (.iload 5, 2) := by decide +kernel
theorem dd_41_50 : decode (mB 41) 50 = .ok (.aload_n 0, 1) := by decide +kernel
theorem dd_41_51 : decode (mB 41) 51 = .ok (.getfield 55, 3) := by decide +kernel
theorem dd_41_54 : decode (mB 41) 54 = .ok (.getfield 129, 3) := by decide +kernel
theorem dd_41_57 : decode (mB 41) 57 = .ok (.sipush 479, 3) := by decide +kernel
theorem dd_41_60 : decode (mB 41) 60 = .ok (.invokestatic 88, 3) := by decide +kernel
theorem dd_41_63 : decode (mB 41) 63 = .ok (.ifCond .ne 6, 3) := by decide +kernel
theorem dd_41_66 : decode (mB 41) 66 = .ok (.ldc 92, 2) := by decide +kernel
theorem dd_41_68 : decode (mB 41) 68 = .ok (.ireturn, 1) := by decide +kernel
theorem dd_41_69 : decode (mB 41) 69 = .ok (.aload_n 0, 1) := by decide +kernel
theorem dd_41_70 : decode (mB 41) 70 = .ok (.getfield 55, 3) := by decide +kernel
theorem dd_41_73 : decode (mB 41) 73 = .ok (.getfield 129, 3) := by decide +kernel
theorem dd_41_76 : decode (mB 41) 76 = .ok (.sipush 480, 3) := by decide +kernel
theorem dd_41_79 : decode (mB 41) 79 = .ok (.if_icmp .lt 6, 3) := by decide +kernel
theorem dd_41_82 : decode (mB 41) 82 = .ok (.ldc 169, 2) := by decide +kernel
theorem dd_41_84 : decode (mB 41) 84 = .ok (.ireturn, 1) := by decide +kernel
theorem dd_41_85 : decode (mB 41) 85 = .ok (.aload_n 0, 1) := by decide +kernel
theorem dd_41_86 : decode (mB 41) 86 = .ok (.getfield 55, 3) := by decide +kernel
theorem dd_41_89 : decode (mB 41) 89 = .ok (.getfield 146, 3) := by decide +kernel
theorem dd_41_92 : decode (mB 41) 92 = .ok (.bipush 40, 2) := by decide +kernel
theorem dd_41_94 : decode (mB 41) 94 = .ok (.if_icmp .lt 6, 3) := by decide +kernel
theorem dd_41_97 : decode (mB 41) 97 = .ok (.ldc 96, 2) := by decide +kernel
theorem dd_41_99 : decode (mB 41) 99 = .ok (.ireturn, 1) := by decide +kernel
theorem dd_41_100 : decode (mB 41) 100 = .ok (.aload_n 0, 1) := by decide +kernel
theorem dd_41_101 : decode (mB 41) 101 = .ok (.iload_n 1, 1) := by decide +kernel
theorem dd_41_102 : decode (mB 41) 102 = .ok (.iload_n 2, 1) := by decide +kernel
theorem dd_41_103 : decode (mB 41) 103 = .ok (.iload_n 3, 1) := by decide +kernel
theorem dd_41_104 : decode (mB 41) 104 = .ok (.iload 4, 2) := by decide +kernel
theorem dd_41_106 : decode (mB 41) 106 = .ok (.iload 4, 2) := by decide +kernel
theorem dd_41_108 : decode (mB 41) 108 = .ok (.iconst 2, 1) := by decide +kernel
theorem dd_41_109 : decode (mB 41) 109 = .ok (.if_icmp .ne 8, 3) := by decide +kernel
theorem dd_41_112 : decode (mB 41) 112 = .ok (.iload 5, 2) := by decide +kernel
theorem dd_41_114 : decode (mB 41) 114 = .ok (.goto 4, 3) := by decide +kernel
theorem dd_41_117 : decode (mB 41) 117 = .ok (.iconst (-1), 1) := by decide +kernel
theorem dd_41_118 : decode (mB 41) 118 = .ok (.invokevirtual 170, 3) := by decide +kernel
theorem dd_41_121 : decode (mB 41) 121 = .ok (.ireturn, 1) := by decide +kernel
theorem dd_42_0 : decode (mB 42) 0 = .ok (.aload_n 0, 1) := by decide +kernel
theorem dd_42_1 : decode (mB 42) 1 = .ok (.invokevirtual 97, 3) := by decide +kernel
theorem dd_42_4 : decode (mB 42) 4 = .ok (.aload_n 0, 1) := by decide +kernel
theorem dd_42_5 : decode (mB 42) 5 = .ok (.getfield 39, 3) := by decide +kernel
theorem dd_42_8 : decode (mB 42) 8 = .ok (.aload_n 0, 1) := by decide +kernel
theorem dd_42_9 : decode (mB 42) 9 = .ok (.getfield 55, 3) := by decide +kernel
theorem dd_42_12 : decode (mB 42) 12 = .ok (.getfield 129, 3) := by decide +kernel
theorem dd_42_15 : decode (mB 42) 15 = .ok (.iconst 0, 1) := by decide +kernel
theorem dd_42_16 : decode (mB 42) 16 = .ok (.invokevirtual 174, 3) := by decide +kernel
theorem dd_42_19 : decode (mB 42) 19 = .ok (.aload_n 0, 1) := by decide +kernel
theorem dd_42_20 : decode (mB 42) 20 = .ok (.getfield 39, 3) := by decide +kernel
theorem dd_42_23 : decode (mB 42) 23 = .ok (.getfield 178, 3) := by decide +kernel
theorem dd_42_26 : decode (mB 42) 26 = .ok (.aload_n 0, 1) := by decide +kernel
theorem dd_42_27 : decode (mB 42) 27 = .ok (.getfield 55, 3) := by decide +kernel
theorem dd_42_30 : decode (mB 42) 30 = .ok (.iload_n 1, 1) := by decide +kernel
theorem dd_42_31 : decode (mB 42) 31 = .ok (.iload_n 2, 1) := by decide +kernel
theorem dd_42_32 : decode (mB 42) 32 = .ok (.invokevirtual 181, 3) := by decide +kernel
theorem dd_42_35 : decode (mB 42) 35 = .ok (.imul, 1) := by decide +kernel
theorem dd_42_36 : decode (mB 42) 36 = .ok (.iconst 1, 1) := by decide +kernel
theorem dd_42_37 : decode (mB 42) 37 = .ok (.aload_n 0, 1) := by decide +kernel
theorem dd_42_38 : decode (mB 42) 38 = .ok (.getfield 12, 3) := by decide +kernel
theorem dd_42_41 : decode (mB 42) 41 = .ok (.iload_n 1, 1) := by decide +kernel
theorem dd_42_42 : decode (mB 42) 42 = .ok (.iload_n 2, 1) := by decide +kernel
theorem dd_42_43 : decode (mB 42) 43 = .ok (.invokevirtual 184, 3) := by decide +kernel
theorem dd_42_46 : decode (mB 42) 46 = .ok (.iadd, 1) := by decide +kernel
theorem dd_42_47 : decode (mB 42) 47 = .ok (.idiv, 1) := by decide +kernel
theorem dd_42_48 : decode (mB 42) 48 = .ok (.istore 6, 2) := by decide +kernel
theorem dd_42_50 : decode (mB 42) 50 = .ok (.aload_n 0, 1) := by decide +kernel
theorem dd_42_51 : decode (mB 42) 51 = .ok (.getfield 55, 3) := by decide +kernel
theorem dd_42_54 : decode (mB 42) 54 = .ok (.iload_n 1, 1) := by decide +kernel
theorem dd_42_55 : decode (mB 42) 55 = .ok (.iload_n 2, 1) := by decide +kernel
theorem dd_42_56 : decode (mB 42) 56 = .ok (.iload_n 3, 1) := by decide +kernel
theorem dd_42_57 : decode (mB 42) 57 = .ok (.iload 4, 2) := by decide +kernel
theorem dd_42_59 : decode (mB 42) 59 = .ok (.iload 5, 2) := by decide +kernel
theorem dd_42_61 : decode (mB 42) 61 = .ok (.iload 6, 2) := by decide +kernel
theorem dd_42_63 : decode (mB 42) 63 = .ok (.invokevirtual 187, 3) := by decide +kernel
theorem dd_42_66 : decode (mB 42) 66 = .ok (.ireturn, 1) := by decide +kernel
theorem dd_43_0 : decode (mB 43) 0 = .ok (.iconst 0, 1) := by decide +kernel
theorem dd_43_1 : decode (mB 43) 1 = .ok (.istore_n 3, 1) := by decide +kernel
theorem dd_43_2 : decode (mB 43) 2 = .ok (.iconst 0, 1) := by decide +kernel
theorem dd_43_3 : decode (mB 43) 3 = .ok (.istore 4, 2) := by decide +kernel
theorem dd_43_5 : decode (mB 43) 5 = .ok (.iload 4, 2) := by decide +kernel
theorem dd_43_7 : decode (mB 43) 7 = .ok (.aload_n 0, 1) := by decide +kernel
theorem dd_43_8 : decode (mB 43) 8 = .ok (.getfield 17, 3) := by decide +kernel
theorem dd_43_11 : decode (mB 43) 11 = .ok (.if_icmp .ge 77, 3) := by decide +kernel
theorem dd_43_14 : decode (mB 43) 14 = .ok (.aload_n 0, 1) := by decide +kernel
theorem dd_43_15 : decode (mB 43) 15 = .ok (.getfield 11, 3) := by decide +kernel
theorem dd_43_18 : decode (mB 43) 18 = .ok (.iload 4, 2) := by decide +kernel
theorem dd_43_20 : decode (mB 43) 20 = .ok (.aaload, 1) := by decide +kernel
theorem dd_43_21 : decode (mB 43) 21 = .ok (.astore 5, 2) := by decide +kernel
theorem dd_43_23 : decode (mB 43) 23 = .ok (.aload 5, 2) := by decide +kernel
theorem dd_43_25 : decode (mB 43) 25 = .ok (.getfield 134, 3) := by decide +kernel
theorem dd_43_28 : decode (mB 43) 28 = .ok (.iload_n 1, 1) := by decide +kernel
theorem dd_43_29 : decode (mB 43) 29 = .ok (.if_icmp .ne 12, 3) := by decide +kernel
theorem dd_43_32 : decode (mB 43) 32 = .ok (.aload 5, 2) := by decide +kernel
theorem dd_43_34 : decode (mB 43) 34 = .ok (.getfield 137, 3) := by decide +kernel
theorem dd_43_37 : decode (mB 43) 37 = .ok (.iload_n 2, 1) := by decide +kernel
theorem dd_43_38 : decode (mB 43) 38 = .ok (.if_icmp .eq 21, 3) := by decide +kernel
theorem dd_43_41 : decode (mB 43) 41 = .ok (.aload 5, 2) := by decide +kernel
theorem dd_43_43 : decode (mB 43) 43 = .ok (.getfield 134, 3) := by decide +kernel
theorem dd_43_46 : decode (mB 43) 46 = .ok (.iload_n 2, 1) := by decide +kernel
theorem dd_43_47 : decode (mB 43) 47 = .ok (.if_icmp .ne 16, 3) := by decide +kernel
theorem dd_43_50 : decode (mB 43) 50 = .ok (.aload 5, 2) := by decide +kernel
theorem dd_43_52 : decode (mB 43) 52 = .ok (.getfield 137, 3) := by decide +kernel
theorem dd_43_55 : decode (mB 43) 55 = .ok (.iload_n 1, 1) := by decide +kernel
theorem dd_43_56 : decode (mB 43) 56 = .ok (.if_icmp .ne 7, 3) := by decide +kernel
theorem dd_43_59 : decode (mB 43) 59 = .ok (.iconst 1, 1) := by decide +kernel
theorem dd_43_60 : decode (mB 43) 60 = .ok (.goto 4, 3) := by decide +kernel
theorem dd_43_63 : decode (mB 43) 63 = .ok (.iconst 0, 1) := by decide +kernel
theorem dd_43_64 : decode (mB 43) 64 = .ok (.istore 6, 2) := by decide +kernel
theorem dd_43_66 : decode (mB 43) 66 = .ok (.iload 6, 2) := by decide +kernel
theorem dd_43_68 : decode (mB 43) 68 = .ok (.ifCond .eq 14, 3) := by decide +kernel
theorem dd_43_71 : decode (mB 43) 71 = .ok (.aload 5, 2) := by decide +kernel
theorem dd_43_73 : decode (mB 43) 73 = .ok (.invokevirtual 140, 3) := by decide +kernel
theorem dd_43_76 : decode (mB 43) 76 = .ok (.ifCond .eq 6, 3) := by decide +kernel
theorem dd_43_79 : decode (mB 43) 79 = .ok (.iinc 3 1, 3) := by decide +kernel
theorem dd_43_82 : decode (mB 43) 82 = .ok (.iinc 4 1, 3) := by decide +kernel
theorem dd_43_85 : decode (mB 43) 85 = .ok (.goto (-80), 3) := by decide +kernel
theorem dd_43_88 : decode (mB 43) 88 = .ok (.iload_n 3, 1) := by decide +kernel
theorem dd_43_89 : decode (mB 43) 89 = .ok (.ireturn, 1) := by decide +kernel
theorem dd_44_0 : decode (mB 44) 0 = .ok (.aload_n 0, 1) := by decide +kernel
theorem dd_44_1 : decode (mB 44) 1 = .ok (.getfield 40, 3) := by decide +kernel
theorem dd_44_4 : decode (mB 44) 4 = .ok (.ifCond .eq 11, 3) := by decide +kernel
theorem dd_44_7 : decode (mB 44) 7 = .ok (.aload_n 0, 1) := by decide +kernel
theorem dd_44_8 : decode (mB 44) 8 = .ok (.getfield 40, 3) := by decide +kernel
theorem dd_44_11 : decode (mB 44) 11 = .ok (.iconst 1, 1) := by decide +kernel
theorem dd_44_12 : decode (mB 44) 12 = .ok (.if_icmp .ne 7, 3) := by decide +kernel
theorem dd_44_15 : decode (mB 44) 15 = .ok (.iconst 1, 1) := by decide +kernel
theorem dd_44_16 : decode (mB 44) 16 = .ok (.goto 4, 3) := by decide +kernel
theorem dd_44_19 : decode (mB 44) 19 = .ok (.iconst 0, 1) := by decide +kernel
theorem dd_44_20 : decode (mB 44) 20 = .ok (.ireturn, 1) := by decide +kernel
theorem dd_45_0 : decode (mB 45) 0 = .ok (.iconst 0, 1) := by decide +kernel
theorem dd_45_1 : decode (mB 45) 1 = .ok (.istore_n 3, 1) := by decide +kernel
theorem dd_45_2 : decode (mB 45) 2 = .ok (.iconst 0, 1) := by decide +kernel
theorem dd_45_3 : decode (mB 45) 3 = .ok (.istore 4, 2) := by decide +kernel
theorem dd_45_5 : decode (mB 45) 5 = .ok (.iload 4, 2) := by decide +kernel
theorem dd_45_7 : decode (mB 45) 7 = .ok (.aload_n 0, 1) := by decide +kernel
theorem dd_45_8 : decode (mB 45) 8 = .ok (.getfield 24, 3) := by decide +kernel
theorem dd_45_11 : decode (mB 45) 11 = .ok (.if_icmp .ge 23, 3) := by decide +kernel
theorem dd_45_14 : decode (mB 45) 14 = .ok (.aload_n 0, 1) := by decide +kernel
theorem dd_45_15 : decode (mB 45) 15 = .ok (.iload 4, 2) := by decide +kernel
theorem dd_45_17 : decode (mB 45) 17 = .ok (.iload_n 1, 1) := by decide +kernel
theorem dd_45_18 : decode (mB 45) 18 = .ok (.invokevirtual 49, 3) := by decide +kernel
theorem dd_45_21 : decode (mB 45) 21 = .ok (.iload_n 2, 1) := by decide +kernel
theorem dd_45_22 : decode (mB 45) 22 = .ok (.if_icmp .ne 6, 3) := by decide +kernel
theorem dd_45_25 : decode (mB 45) 25 = .ok (.iinc 3 1, 3) := by decide +kernel
theorem dd_45_28 : decode (mB 45) 28 = .ok (.iinc 4 1, 3) := by decide +kernel
theorem dd_45_31 : decode (mB 45) 31 = .ok (.goto (-26), 3) := by decide +kernel
theorem dd_45_34 : decode (mB 45) 34 = .ok (.iload_n 3, 1) := by decide +kernel
theorem dd_45_35 : decode (mB 45) 35 = .ok (.ireturn, 1) := by decide +kernel
theorem dd_46_0 : decode (mB 46) 0 = .ok (.iload_n 1, 1) := by decide +kernel
theorem dd_46_1 : decode (mB 46) 1 = .ok (.ifCond .lt 9, 3) := by decide +kernel
theorem dd_46_4 : decode (mB 46) 4 = .ok (.iload_n 1, 1) := by decide +kernel
theorem dd_46_5 : decode (mB 46) 5 = .ok (.bipush 20, 2) := by decide +kernel
theorem dd_46_7 : decode (mB 46) 7 = .ok (.if_icmp .lt 5, 3) := by decide +kernel
theorem dd_46_10 : decode (mB 46) 10 = .ok (.iconst (-1), 1) := by decide +kernel
theorem dd_46_11 : decode (mB 46) 11 = .ok (.ireturn, 1) := by decide +kernel
theorem dd_46_12 : decode (mB 46) 12 = .ok (.aload_n 0, 1) := by decide +kernel
theorem dd_46_13 : decode (mB 46) 13 = .ok (.getfield 9, 3) := by decide +kernel
theorem dd_46_16 : decode (mB 46) 16 = .ok (.iload_n 1, 1) := by decide +kernel
theorem dd_46_17 : decode (mB 46) 17 = .ok (.iaload, 1) := by decide +kernel
theorem dd_46_18 : decode (mB 46) 18 = .ok (.iload_n 2, 1) := by decide +kernel
theorem dd_46_19 : decode (mB 46) 19 = .ok (.if_icmp .ne 10, 3) := by decide +kernel
theorem dd_46_22 : decode (mB 46) 22 = .ok (.aload_n 0, 1) := by decide +kernel
theorem dd_46_23 : decode (mB 46) 23 = .ok (.getfield 15, 3) := by decide +kernel
theorem dd_46_26 : decode (mB 46) 26 = .ok (.iload_n 1, 1) := by decide +kernel
theorem dd_46_27 : decode (mB 46) 27 = .ok (.iaload, 1) := by decide +kernel
theorem dd_46_28 : decode (mB 46) 28 = .ok (.ireturn, 1) := by decide +kernel
theorem dd_46_29 : decode (mB 46) 29 = .ok (.aload_n 0, 1) := by decide +kernel
theorem dd_46_30 : decode (mB 46) 30 = .ok (.getfield 15, 3) := by decide +kernel
theorem dd_46_33 : decode (mB 46) 33 = .ok (.iload_n 1, 1) := by decide +kernel
theorem dd_46_34 : decode (mB 46) 34 = .ok (.iaload, 1) := by decide +kernel
theorem dd_46_35 : decode (mB 46) 35 = .ok (.iload_n 2, 1) := by decide +kernel
theorem dd_46_36 : decode (mB 46) 36 = .ok (.if_icmp .ne 12, 3) := by decide +kernel
theorem dd_46_39 : decode (mB 46) 39 = .ok (.aload_n 0, 1) := by decide +kernel
theorem dd_46_40 : decode (mB 46) 40 = .ok (.getfield 9, 3) := by decide +kernel
theorem dd_46_43 : decode (mB 46) 43 = .ok (.iload_n 1, 1) := by decide +kernel
theorem dd_46_44 : decode (mB 46) 44 = .ok (.iaload, 1) := by decide +kernel
theorem dd_46_45 : decode (mB 46) 45 = .ok (.goto 4, 3) := by decide +kernel
theorem dd_46_48 : decode (mB 46) 48 = .ok (.iconst (-1), 1) := by decide +kernel
theorem dd_46_49 : decode (mB 46) 49 = .ok (.ireturn, 1) := by decide +kernel
theorem dd_47_0 : decode (mB 47) 0 = .ok (.aload_n 0, 1) := by decide +kernel
theorem dd_47_1 : decode (mB 47) 1 = .ok (.getfield 17, 3) := by decide +kernel
theorem dd_47_4 : decode (mB 47) 4 = .ok (.bipush 40, 2) := by decide +kernel
theorem dd_47_6 : decode (mB 47) 6 = .ok (.if_icmp .lt 5, 3) := by decide +kernel
theorem dd_47_9 : decode (mB 47) 9 = .ok (.iconst (-1), 1) := by decide +kernel
theorem dd_47_10 : decode (mB 47) 10 = .ok (.ireturn, 1) := by decide +kernel
theorem dd_47_11 : decode (mB 47) 11 = .ok (.aload_n 0, 1) := by decide +kernel
theorem dd_47_12 : decode (mB 47) 12 = .ok (.getfield 11, 3) := by decide +kernel
theorem dd_47_15 : decode (mB 47) 15 = .ok (.aload_n 0, 1) := by decide +kernel
theorem dd_47_16 : decode (mB 47) 16 = .ok (.getfield 17, 3) := by decide +kernel
theorem dd_47_19 : decode (mB 47) 19 = .ok (.aaload, 1) := by decide +kernel
theorem dd_47_20 : decode (mB 47) 20 = .ok (.astore 7, 2) := by decide +kernel
theorem dd_47_22 : decode (mB 47) 22 = .ok (.aload 7, 2) := by decide +kernel
theorem dd_47_24 : decode (mB 47) 24 = .ok (.iload_n 1, 1) := by decide +kernel
theorem dd_47_25 : decode (mB 47) 25 = .ok (.iload_n 2, 1) := by decide +kernel
theorem dd_47_26 : decode (mB 47) 26 = .ok (.iload_n 3, 1) := by decide +kernel
theorem dd_47_27 : decode (mB 47) 27 = .ok (.iload 4, 2) := by decide +kernel
theorem dd_47_29 : decode (mB 47) 29 = .ok (.iload 5, 2) := by decide +kernel
theorem dd_47_31 : decode (mB 47) 31 = .ok (.invokevirtual 147, 3) := by decide +kernel
theorem dd_47_34 : decode (mB 47) 34 = .ok (.aload 7, 2) := by decide +kernel
theorem dd_47_36 : decode (mB 47) 36 = .ok (.aload_n 0, 1) := by decide +kernel
theorem dd_47_37 : decode (mB 47) 37 = .ok (.getfield 21, 3) := by decide +kernel
theorem dd_47_40 : decode (mB 47) 40 = .ok (.putfield 151, 3) := by decide +kernel
theorem dd_47_43 : decode (mB 47) 43 = .ok (.aload 7, 2) := by decide +kernel
theorem dd_47_45 : decode (mB 47) 45 = .ok (.iload 6, 2) := by decide +kernel
theorem dd_47_47 : decode (mB 47) 47 = .ok (.putfield 154, 3) := by decide +kernel
theorem dd_47_50 : decode (mB 47) 50 = .ok (.aload_n 0, 1) := by decide +kernel
theorem dd_47_51 : decode (mB 47) 51 = .ok (.dup, 1) := by decide +kernel
theorem dd_47_52 : decode (mB 47) 52 = .ok (.getfield 17, 3) := by decide +kernel
theorem dd_47_55 : decode (mB 47) 55 = .ok (.iconst 1, 1) := by decide +kernel
theorem dd_47_56 : decode (mB 47) 56 = .ok (.iadd, 1) := by decide +kernel
theorem dd_47_57 : decode (mB 47) 57 = .ok (.putfield 17, 3) := by decide +kernel
theorem dd_47_60 : decode (mB 47) 60 = .ok (.aload_n 0, 1) := by decide +kernel
theorem dd_47_61 : decode (mB 47) 61 = .ok (.getfield 17, 3) := by decide +kernel
theorem dd_47_64 : decode (mB 47) 64 = .ok (.iconst 1, 1) := by decide +kernel
theorem dd_47_65 : decode (mB 47) 65 = .ok (.isub, 1) := by decide +kernel
theorem dd_47_66 : decode (mB 47) 66 = .ok (.ireturn, 1) := by decide +kernel
theorem dd_48_0 : decode (mB 48) 0 = .ok (.aload_n 0, 1) := by decide +kernel
theorem dd_48_1 : decode (mB 48) 1 = .ok (.iload_n 1, 1) := by decide +kernel
theorem dd_48_2 : decode (mB 48) 2 = .ok (.putfield 9, 3) := by decide +kernel
theorem dd_48_5 : decode (mB 48) 5 = .ok (.aload_n 0, 1) := by decide +kernel
theorem dd_48_6 : decode (mB 48) 6 = .ok (.iload_n 2, 1) := by decide +kernel
theorem dd_48_7 : decode (mB 48) 7 = .ok (.putfield 15, 3) := by decide +kernel
theorem dd_48_10 : decode (mB 48) 10 = .ok (.aload_n 0, 1) := by decide +kernel
theorem dd_48_11 : decode (mB 48) 11 = .ok (.iload_n 3, 1) := by decide +kernel
theorem dd_48_12 : decode (mB 48) 12 = .ok (.putfield 18, 3) := by decide +kernel
theorem dd_48_15 : decode (mB 48) 15 = .ok (.aload_n 0, 1) := by decide +kernel
theorem dd_48_16 : decode (mB 48) 16 = .ok (.iload 4, 2) := by decide +kernel
theorem dd_48_18 : decode (mB 48) 18 = .ok (.putfield 21, 3) := by decide +kernel
theorem dd_48_21 : decode (mB 48) 21 = .ok (.aload_n 0, 1) := by decide +kernel
theorem dd_48_22 : decode (mB 48) 22 = .ok (.iload 5, 2) := by decide +kernel
theorem dd_48_24 : decode (mB 48) 24 = .ok (.putfield 24, 3) := by decide +kernel
theorem dd_48_27 : decode (mB 48) 27 = .ok (.return_, 1) := by decide +kernel
theorem dd_49_0 : decode (mB 49) 0 = .ok (.aload_n 0, 1) := by decide +kernel
theorem dd_49_1 : decode (mB 49) 1 = .ok (.iload_n 1, 1) := by decide +kernel
theorem dd_49_2 : decode (mB 49) 2 = .ok (.invokevirtual 190, 3) := by decide +kernel
theorem dd_49_5 : decode (mB 49) 5 = .ok (.ifCond .ne 6, 3) := by decide +kernel
theorem dd_49_8 : decode (mB 49) 8 = .ok (.ldc 87, 2) := by decide +kernel
theorem dd_49_10 : decode (mB 49) 10 = .ok (.ireturn, 1) := by decide +kernel
theorem dd_49_11 : decode (mB 49) 11 = .ok (.aload_n 0, 1) := by decide +kernel
theorem dd_49_12 : decode (mB 49) 12 = .ok (.getfield 55, 3) := by decide +kernel
theorem dd_49_15 : decode (mB 49) 15 = .ok (.iload_n 1, 1) := by decide +kernel
theorem dd_49_16 : decode (mB 49) 16 = .ok (.invokevirtual 193, 3) := by decide +kernel
theorem dd_49_19 : decode (mB 49) 19 = .ok (.ifCond .ne 6, 3) := by decide +kernel
theorem dd_49_22 : decode (mB 49) 22 = .ok (.ldc 169, 2) := by decide +kernel
theorem dd_49_24 : decode (mB 49) 24 = .ok (.ireturn, 1) := by decide +kernel
theorem dd_49_25 : decode (mB 49) 25 = .ok (.aload_n 0, 1) := by decide +kernel
theorem dd_49_26 : decode (mB 49) 26 = .ok (.invokevirtual 97, 3) := by decide +kernel
theorem dd_49_29 : decode (mB 49) 29 = .ok (.iconst 1, 1) := by decide +kernel
theorem dd_49_30 : decode (mB 49) 30 = .ok (.ireturn, 1) := by decide +kernel
theorem dd_50_0 : decode (mB 50) 0 = .ok (.iload_n 1, 1) := by decide +kernel
theorem dd_50_1 : decode (mB 50) 1 = .ok (.iconst 0, 1) := by decide +kernel
theorem dd_50_2 : decode (mB 50) 2 = .ok (.aload_n 0, 1) := by decide +kernel
theorem dd_50_3 : decode (mB 50) 3 = .ok (.getfield 55, 3) := by decide +kernel
theorem dd_50_6 : decode (mB 50) 6 = .ok (.getfield 146, 3) := by decide +kernel
theorem dd_50_9 : decode (mB 50) 9 = .ok (.iconst 1, 1) := by decide +kernel
theorem dd_50_10 : decode (mB 50) 10 = .ok (.isub, 1) := by decide +kernel
theorem dd_50_11 : decode (mB 50) 11 = .ok (.invokestatic 88, 3) := by decide +kernel
theorem dd_50_14 : decode (mB 50) 14 = .ok (.ireturn, 1) := by decide +kernel
theorem dd_51_0 : decode (mB 51) 0 = .ok (.iload_n 1, 1) := by decide +kernel
theorem dd_51_1 : decode (mB 51) 1 = .ok (.ifCond .lt 23, 3) := by decide +kernel
theorem dd_51_4 : decode (mB 51) 4 = .ok (.iload_n 1, 1) := by decide +kernel
theorem dd_51_5 : decode (mB 51) 5 = .ok (.aload_n 0, 1) := by decide +kernel
theorem dd_51_6 : decode (mB 51) 6 = .ok (.getfield 17, 3) := by decide +kernel
theorem dd_51_9 : decode (mB 51) 9 = .ok (.if_icmp .ge 15, 3) := by decide +kernel
theorem dd_51_12 : decode (mB 51) 12 = .ok (.aload_n 0, 1) := by decide +kernel
theorem dd_51_13 : decode (mB 51) 13 = .ok (.getfield 11, 3) := by decide +kernel
theorem dd_51_16 : decode (mB 51) 16 = .ok (.iload_n 1, 1) := by decide +kernel
theorem dd_51_17 : decode (mB 51) 17 = .ok (.aaload, 1) := by decide +kernel
theorem dd_51_18 : decode (mB 51) 18 = .ok (.invokevirtual 140, 3) := by decide +kernel
theorem dd_51_21 : decode (mB 51) 21 = .ok (.ifCond .ne 5, 3) := by decide +kernel
theorem dd_51_24 : decode (mB 51) 24 = .ok (.iconst 0, 1) := by decide +kernel
theorem dd_51_25 : decode (mB 51) 25 = .ok (.ireturn, 1) := by decide +kernel
theorem dd_51_26 : decode (mB 51) 26 = .ok (.aload_n 0, 1) := by decide +kernel
theorem dd_51_27 : decode (mB 51) 27 = .ok (.aload_n 0, 1) := by decide +kernel
theorem dd_51_28 : decode (mB 51) 28 = .ok (.getfield 11, 3) := by decide +kernel
theorem dd_51_31 : decode (mB 51) 31 = .ok (.iload_n 1, 1) := by decide +kernel
theorem dd_51_32 : decode (mB 51) 32 = .ok (.aaload, 1) := by decide +kernel
theorem dd_51_33 : decode (mB 51) 33 = .ok (.invokevirtual 157, 3) := by decide +kernel
theorem dd_51_36 : decode (mB 51) 36 = .ok (.aload_n 0, 1) := by decide +kernel
theorem dd_51_37 : decode (mB 51) 37 = .ok (.getfield 11, 3) := by decide +kernel
theorem dd_51_40 : decode (mB 51) 40 = .ok (.iload_n 1, 1) := by decide +kernel
theorem dd_51_41 : decode (mB 51) 41 = .ok (.aaload, 1) := by decide +kernel
theorem dd_51_42 : decode (mB 51) 42 = .ok (.iconst 5, 1) := by decide +kernel
theorem dd_51_43 : decode (mB 51) 43 = .ok (.putfield 75, 3) := by decide +kernel
theorem dd_51_46 : decode (mB 51) 46 = .ok (.aload_n 0, 1) := by decide +kernel
theorem dd_51_47 : decode (mB 51) 47 = .ok (.getfield 11, 3) := by decide +kernel
theorem dd_51_50 : decode (mB 51) 50 = .ok (.iload_n 1, 1) := by decide +kernel
theorem dd_51_51 : decode (mB 51) 51 = .ok (.aaload, 1) := by decide +kernel
theorem dd_51_52 : decode (mB 51) 52 = .ok (.aload_n 0, 1) := by decide +kernel
theorem dd_51_53 : decode (mB 51) 53 = .ok (.getfield 21, 3) := by decide +kernel
theorem dd_51_56 : decode (mB 51) 56 = .ok (.putfield 161, 3) := by decide +kernel
theorem dd_51_59 : decode (mB 51) 59 = .ok (.aload_n 0, 1) := by decide +kernel
theorem dd_51_60 : decode (mB 51) 60 = .ok (.getfield 11, 3) := by decide +kernel
theorem dd_51_63 : decode (mB 51) 63 = .ok (.iload_n 1, 1) := by decide +kernel
theorem dd_51_64 : decode (mB 51) 64 = .ok (.aaload, 1) := by decide +kernel
theorem dd_51_65 : decode (mB 51) 65 = .ok (.aload_n 0, 1) := by decide +kernel
theorem dd_51_66 : decode (mB 51) 66 = .ok (.getfield 21, 3) := by decide +kernel
theorem dd_51_69 : decode (mB 51) 69 = .ok (.putfield 164, 3) := by decide +kernel
theorem dd_51_72 : decode (mB 51) 72 = .ok (.iconst 1, 1) := by decide +kernel
theorem dd_51_73 : decode (mB 51) 73 = .ok (.ireturn, 1) := by decide +kernel
theorem dd_52_0 : decode (mB 52) 0 = .ok (.aload_n 0, 1) := by decide +kernel
theorem dd_52_1 : decode (mB 52) 1 = .ok (.dup, 1) := by decide +kernel
theorem dd_52_2 : decode (mB 52) 2 = .ok (.getfield 40, 3) := by decide +kernel
theorem dd_52_5 : decode (mB 52) 5 = .ok (.aload_n 1, 1) := by decide +kernel
theorem dd_52_6 : decode (mB 52) 6 = .ok (.getfield 144, 3) := by decide +kernel
theorem dd_52_9 : decode (mB 52) 9 = .ok (.iconst (-1), 1) := by decide +kernel
theorem dd_52_10 : decode (mB 52) 10 = .ok (.ixor, 1) := by decide +kernel
theorem dd_52_11 : decode (mB 52) 11 = .ok (.iand, 1) := by decide +kernel
theorem dd_52_12 : decode (mB 52) 12 = .ok (.putfield 40, 3) := by decide +kernel
theorem dd_52_15 : decode (mB 52) 15 = .ok (.aload_n 1, 1) := by decide +kernel
theorem dd_52_16 : decode (mB 52) 16 = .ok (.iconst 0, 1) := by decide +kernel
theorem dd_52_17 : decode (mB 52) 17 = .ok (.putfield 144, 3) := by decide +kernel
theorem dd_52_20 : decode (mB 52) 20 = .ok (.aload_n 1, 1) := by decide +kernel
theorem dd_52_21 : decode (mB 52) 21 = .ok (.iconst 0, 1) := by decide +kernel
theorem dd_52_22 : decode (mB 52) 22 = .ok (.putfield 213, 3) := by decide +kernel
theorem dd_52_25 : decode (mB 52) 25 = .ok (.aload_n 1, 1) := by decide +kernel
theorem dd_52_26 : decode (mB 52) 26 = .ok (.iconst 0, 1) := by decide +kernel
theorem dd_52_27 : decode (mB 52) 27 = .ok (.putfield 98, 3) := by decide +kernel
theorem dd_52_30 : decode (mB 52) 30 = .ok (.aload_n 1, 1) := by decide +kernel
theorem dd_52_31 : decode (mB 52) 31 = .ok (.iconst 0, 1) := by decide +kernel
theorem dd_52_32 : decode (mB 52) 32 = .ok (.putfield 75, 3) := by decide +kernel
theorem dd_52_35 : decode (mB 52) 35 = .ok (.return_, 1) := by decide +kernel
theorem dd_53_0 : decode (mB 53) 0 = .ok (.aload_n 0, 1) := by decide +kernel
theorem dd_53_1 : decode (mB 53) 1 = .ok (.iload_n 1, 1) := by decide +kernel
theorem dd_53_2 : decode (mB 53) 2 = .ok (.invokevirtual 190, 3) := by decide +kernel
theorem dd_53_5 : decode (mB 53) 5 = .ok (.ifCond .ne 6, 3) := by decide +kernel
theorem dd_53_8 : decode (mB 53) 8 = .ok (.ldc 87, 2) := by decide +kernel
theorem dd_53_10 : decode (mB 53) 10 = .ok (.ireturn, 1) := by decide +kernel
theorem dd_53_11 : decode (mB 53) 11 = .ok (.aload_n 0, 1) := by decide +kernel
theorem dd_53_12 : decode (mB 53) 12 = .ok (.getfield 55, 3) := by decide +kernel
theorem dd_53_15 : decode (mB 53) 15 = .ok (.getfield 196, 3) := by decide +kernel
theorem dd_53_18 : decode (mB 53) 18 = .ok (.iload_n 1, 1) := by decide +kernel
theorem dd_53_19 : decode (mB 53) 19 = .ok (.aaload, 1) := by decide +kernel
theorem dd_53_20 : decode (mB 53) 20 = .ok (.astore_n 2, 1) := by decide +kernel
theorem dd_53_21 : decode (mB 53) 21 = .ok (.aload_n 2, 1) := by decide +kernel
theorem dd_53_22 : decode (mB 53) 22 = .ok (.getfield 200, 3) := by decide +kernel
theorem dd_53_25 : decode (mB 53) 25 = .ok (.iconst 4, 1) := by decide +kernel
theorem dd_53_26 : decode (mB 53) 26 = .ok (.if_icmp .ne 23, 3) := by decide +kernel
theorem dd_53_29 : decode (mB 53) 29 = .ok (.aload_n 2, 1) := by decide +kernel
theorem dd_53_30 : decode (mB 53) 30 = .ok (.getfield 205, 3) := by decide +kernel
theorem dd_53_33 : decode (mB 53) 33 = .ok (.ifCond .ne 16, 3) := by decide +kernel
theorem dd_53_36 : decode (mB 53) 36 = .ok (.aload_n 0, 1) := by decide +kernel
theorem dd_53_37 : decode (mB 53) 37 = .ok (.getfield 55, 3) := by decide +kernel
theorem dd_53_40 : decode (mB 53) 40 = .ok (.getfield 129, 3) := by decide +kernel
theorem dd_53_43 : decode (mB 53) 43 = .ok (.sipush 480, 3) := by decide +kernel
theorem dd_53_46 : decode (mB 53) 46 = .ok (.if_icmp .lt 6, 3) := by decide +kernel
theorem dd_53_49 : decode (mB 53) 49 = .ok (.ldc 169, 2) := by decide +kernel
theorem dd_53_51 : decode (mB 53) 51 = .ok (.ireturn, 1) := by decide +kernel
theorem dd_53_52 : decode (mB 53) 52 = .ok (.aload_n 0, 1) := by decide +kernel
theorem dd_53_53 : decode (mB 53) 53 = .ok (.getfield 55, 3) := by decide +kernel
theorem dd_53_56 : decode (mB 53) 56 = .ok (.getfield 146, 3) := by decide +kernel
theorem dd_53_59 : decode (mB 53) 59 = .ok (.bipush 40, 2) := by decide +kernel
theorem dd_53_61 : decode (mB 53) 61 = .ok (.if_icmp .lt 6, 3) := by decide +kernel
theorem dd_53_64 : decode (mB 53) 64 = .ok (.ldc 96, 2) := by decide +kernel
theorem dd_53_66 : decode (mB 53) 66 = .ok (.ireturn, 1) := by decide +kernel
theorem dd_53_67 : decode (mB 53) 67 = .ok (.aload_n 2, 1) := by decide +kernel
theorem dd_53_68 : decode (mB 53) 68 = .ok (.iconst 1, 1) := by decide +kernel
theorem dd_53_69 : decode (mB 53) 69 = .ok (.putfield 205, 3) := by decide +kernel
theorem dd_53_72 : decode (mB 53) 72 = .ok (.aload_n 0, 1) := by decide +kernel
theorem dd_53_73 : decode (mB 53) 73 = .ok (.aload_n 2, 1) := by decide +kernel
theorem dd_53_74 : decode (mB 53) 74 = .ok (.getfield 209, 3) := by decide +kernel
theorem dd_53_77 : decode (mB 53) 77 = .ok (.aload_n 2, 1) := by decide +kernel
theorem dd_53_78 : decode (mB 53) 78 = .ok (.getfield 212, 3) := by decide +kernel
theorem dd_53_81 : decode (mB 53) 81 = .ok (.aload_n 2, 1) := by decide +kernel
theorem dd_53_82 : decode (mB 53) 82 = .ok (.getfield 215, 3) := by decide +kernel
theorem dd_53_85 : decode (mB 53) 85 = .ok (.aload_n 2, 1) := by decide +kernel
theorem dd_53_86 : decode (mB 53) 86 = .ok (.invokevirtual 216, 3) := by decide +kernel
theorem dd_53_89 : decode (mB 53) 89 = .ok (.isub, 1) := by decide +kernel
theorem dd_53_90 : decode (mB 53) 90 = .ok (.iconst 0, 1) := by decide +kernel
theorem dd_53_91 : decode (mB 53) 91 = .ok (.iconst (-1), 1) := by decide +kernel
theorem dd_53_92 : decode (mB 53) 92 = .ok (.invokevirtual 170, 3) := by decide +kernel
theorem dd_53_95 : decode (mB 53) 95 = .ok (.ireturn, 1) := by decide +kernel
theorem dd_54_0 : decode (mB 54) 0 = .ok (.aload_n 0, 1) := by decide +kernel
theorem dd_54_1 : decode (mB 54) 1 = .ok (.iload_n 1, 1) := by decide +kernel
theorem dd_54_2 : decode (mB 54) 2 = .ok (.invokevirtual 190, 3) := by decide +kernel
theorem dd_54_5 : decode (mB 54) 5 = .ok (.ifCond .ne 6, 3) := by decide +kernel
theorem dd_54_8 : decode (mB 54) 8 = .ok (.ldc 87, 2) := by decide +kernel
theorem dd_54_10 : decode (mB 54) 10 = .ok (.ireturn, 1) := by decide +kernel
theorem dd_54_11 : decode (mB 54) 11 = .ok (.aload_n 0, 1) := by decide +kernel
theorem dd_54_12 : decode (mB 54) 12 = .ok (.getfield 55, 3) := by decide +kernel
theorem dd_54_15 : decode (mB 54) 15 = .ok (.getfield 196, 3) := by decide +kernel
theorem dd_54_18 : decode (mB 54) 18 = .ok (.iload_n 1, 1) := by decide +kernel
theorem dd_54_19 : decode (mB 54) 19 = .ok (.aaload, 1) := by decide +kernel
theorem dd_54_20 : decode (mB 54) 20 = .ok (.astore_n 3, 1) := by decide +kernel
theorem dd_54_21 : decode (mB 54) 21 = .ok (.iload_n 2, 1) := by decide +kernel
theorem dd_54_22 : decode (mB 54) 22 = .ok (.tableswitch 158 0 13 #[70, 75, 80, 85, 90, 95, 100, 105, 110, 115, 120, 125, 130, 139], 70) := by decide +kernel
theorem dd_54_92 : decode (mB 54) 92 = .ok (.aload_n 3, 1) := by decide +kernel
theorem dd_54_93 : decode (mB 54) 93 = .ok (.getfield 209, 3) := by decide +kernel
theorem dd_54_96 : decode (mB 54) 96 = .ok (.ireturn, 1) := by decide +kernel
theorem dd_54_97 : decode (mB 54) 97 = .ok (.aload_n 3, 1) := by decide +kernel
theorem dd_54_98 : decode (mB 54) 98 = .ok (.getfield 212, 3) := by decide +kernel
theorem dd_54_101 : decode (mB 54) 101 = .ok (.ireturn, 1) := by decide +kernel
theorem dd_54_102 : decode (mB 54) 102 = .ok (.aload_n 3, 1) := by decide +kernel
theorem dd_54_103 : decode (mB 54) 103 = .ok (.getfield 215, 3) := by decide +kernel
theorem dd_54_106 : decode (mB 54) 106 = .ok (.ireturn, 1) := by decide +kernel
theorem dd_54_107 : decode (mB 54) 107 = .ok (.aload_n 3, 1) := by decide +kernel
theorem dd_54_108 : decode (mB 54) 108 = .ok (.getfield 219, 3) := by decide +kernel
theorem dd_54_111 : decode (mB 54) 111 = .ok (.ireturn, 1) := by decide +kernel
theorem dd_54_112 : decode (mB 54) 112 = .ok (.aload_n 3, 1) := by decide +kernel
theorem dd_54_113 : decode (mB 54) 113 = .ok (.getfield 222, 3) := by decide +kernel
theorem dd_54_116 : decode (mB 54) 116 = .ok (.ireturn, 1) := by decide +kernel
theorem dd_54_117 : decode (mB 54) 117 = .ok (.aload_n 3, 1) := by decide +kernel
theorem dd_54_118 : decode (mB 54) 118 = .ok (.getfield 225, 3) := by decide +kernel
theorem dd_54_121 : decode (mB 54) 121 = .ok (.ireturn, 1) := by decide +kernel
theorem dd_54_122 : decode (mB 54) 122 = .ok (.aload_n 3, 1) := by decide +kernel
theorem dd_54_123 : decode (mB 54) 123 = .ok (.getfield 200, 3) := by decide +kernel
theorem dd_54_126 : decode (mB 54) 126 = .ok (.ireturn, 1) := by decide +kernel
theorem dd_54_127 : decode (mB 54) 127 = .ok (.aload_n 3, 1) := by decide +kernel
theorem dd_54_128 : decode (mB 54) 128 = .ok (.getfield 228, 3) := by decide +kernel
theorem dd_54_131 : decode (mB 54) 131 = .ok (.ireturn, 1) := by decide +kernel
theorem dd_54_132 : decode (mB 54) 132 = .ok (.aload_n 3, 1) := by decide +kernel
theorem dd_54_133 : decode (mB 54) 133 = .ok (.getfield 231, 3) := by decide +kernel
theorem dd_54_136 : decode (mB 54) 136 = .ok (.ireturn, 1) := by decide +kernel
theorem dd_54_137 : decode (mB 54) 137 = .ok (.aload_n 3, 1) := by decide +kernel
theorem dd_54_138 : decode (mB 54) 138 = .ok (.getfield 234, 3) := by decide +kernel
theorem dd_54_141 : decode (mB 54) 141 = .ok (.ireturn, 1) := by decide +kernel
theorem dd_54_142 : decode (mB 54) 142 = .ok (.aload_n 3, 1) := by decide +kernel
theorem dd_54_143 : decode (mB 54) 143 = .ok (.getfield 237, 3) := by decide +kernel
theorem dd_54_146 : decode (mB 54) 146 = .ok (.ireturn, 1) := by decide +kernel
theorem dd_54_147 : decode (mB 54) 147 = .ok (.aload_n 3, 1) := by decide +kernel
theorem dd_54_148 : decode (mB 54) 148 = .ok (.getfield 240, 3) := by decide +kernel
theorem dd_54_151 : decode (mB 54) 151 = .ok (.ireturn, 1) := by decide +kernel
theorem dd_54_152 : decode (mB 54) 152 = .ok (.aload_n 0, 1) := by decide +kernel
theorem dd_54_153 : decode (mB 54) 153 = .ok (.getfield 55, 3) := by decide +kernel
theorem dd_54_156 : decode (mB 54) 156 = .ok (.aload_n 3, 1) := by decide +kernel
theorem dd_54_157 : decode (mB 54) 157 = .ok (.invokevirtual 243, 3) := by decide +kernel
theorem dd_54_160 : decode (mB 54) 160 = .ok (.ireturn, 1) := by decide +kernel
theorem dd_54_161 : decode (mB 54) 161 = .ok (.aload_n 3, 1) := by decide +kernel
theorem dd_54_162 : decode (mB 54) 162 = .ok (.getfield 247, 3) := by decide +kernel
theorem dd_54_165 : decode (mB 54) 165 = .ok (.ifCond .ne 7, 3) := by decide +kernel
theorem dd_54_168 : decode (mB 54) 168 = .ok (.iconst (-1), 1) := by decide +kernel
theorem dd_54_169 : decode (mB 54) 169 = .ok (.goto 10, 3) := by decide +kernel
theorem dd_54_172 : decode (mB 54) 172 = .ok (.aload_n 3, 1) := by decide +kernel
theorem dd_54_173 : decode (mB 54) 173 = .ok (.getfield 247, 3) := by decide +kernel
theorem dd_54_176 : decode (mB 54) 176 = .ok (.invokestatic 250, 3) := by decide +kernel
theorem dd_54_179 : decode (mB 54) 179 = .ok (.ireturn, 1) := by decide +kernel
theorem dd_54_180 : decode (mB 54) 180 = .ok (.ldc 92, 2) := by decide +kernel
theorem dd_54_182 : decode (mB 54) 182 = .ok (.ireturn, 1) := by decide +kernel
theorem dd_55_0 : decode (mB 55) 0 = .ok (.aload_n 0, 1) := by decide +kernel
theorem dd_55_1 : decode (mB 55) 1 = .ok (.iload_n 1, 1) := by decide +kernel
theorem dd_55_2 : decode (mB 55) 2 = .ok (.invokevirtual 190, 3) := by decide +kernel
theorem dd_55_5 : decode (mB 55) 5 = .ok (.ifCond .eq 22, 3) := by decide +kernel
theorem dd_55_8 : decode (mB 55) 8 = .ok (.aload_n 0, 1) := by decide +kernel
theorem dd_55_9 : decode (mB 55) 9 = .ok (.getfield 55, 3) := by decide +kernel
theorem dd_55_12 : decode (mB 55) 12 = .ok (.getfield 196, 3) := by decide +kernel
theorem dd_55_15 : decode (mB 55) 15 = .ok (.iload_n 1, 1) := by decide +kernel
theorem dd_55_16 : decode (mB 55) 16 = .ok (.aaload, 1) := by decide +kernel
theorem dd_55_17 : decode (mB 55) 17 = .ok (.getfield 247, 3) := by decide +kernel
theorem dd_55_20 : decode (mB 55) 20 = .ok (.iload_n 2, 1) := by decide +kernel
theorem dd_55_21 : decode (mB 55) 21 = .ok (.invokestatic 255, 3) := by decide +kernel
theorem dd_55_24 : decode (mB 55) 24 = .ok (.goto 5, 3) := by decide +kernel
theorem dd_55_27 : decode (mB 55) 27 = .ok (.ldc 87, 2) := by decide +kernel
theorem dd_55_29 : decode (mB 55) 29 = .ok (.ireturn, 1) := by decide +kernel
theorem dd_56_0 : decode (mB 56) 0 = .ok (.iload_n 1, 1) := by decide +kernel
theorem dd_56_1 : decode (mB 56) 1 = .ok (.ifCond .lt 11, 3) := by decide +kernel
theorem dd_56_4 : decode (mB 56) 4 = .ok (.iload_n 1, 1) := by decide +kernel
theorem dd_56_5 : decode (mB 56) 5 = .ok (.iload_n 0, 1) := by decide +kernel
theorem dd_56_6 : decode (mB 56) 6 = .ok (.bipush 25, 2) := by decide +kernel
theorem dd_56_8 : decode (mB 56) 8 = .ok (.iushr, 1) := by decide +kernel
theorem dd_56_9 : decode (mB 56) 9 = .ok (.if_icmp .lt 7, 3) := by decide +kernel
theorem dd_56_12 : decode (mB 56) 12 = .ok (.iconst (-1), 1) := by decide +kernel
theorem dd_56_13 : decode (mB 56) 13 = .ok (.goto 13, 3) := by decide +kernel
theorem dd_56_16 : decode (mB 56) 16 = .ok (.iload_n 0, 1) := by decide +kernel
theorem dd_56_17 : decode (mB 56) 17 = .ok (.iconst 2, 1) := by decide +kernel
theorem dd_56_18 : decode (mB 56) 18 = .ok (.iload_n 1, 1) := by decide +kernel
theorem dd_56_19 : decode (mB 56) 19 = .ok (.isub, 1) := by decide +kernel
theorem dd_56_20 : decode (mB 56) 20 = .ok (.iconst 5, 1) := by decide +kernel
theorem dd_56_21 : decode (mB 56) 21 = .ok (.imul, 1) := by decide +kernel
theorem dd_56_22 : decode (mB 56) 22 = .ok (.iushr, 1) := by decide +kernel
theorem dd_56_23 : decode (mB 56) 23 = .ok (.bipush 31, 2) := by decide +kernel
theorem dd_56_25 : decode (mB 56) 25 = .ok (.iand, 1) := by decide +kernel
theorem dd_56_26 : decode (mB 56) 26 = .ok (.ireturn, 1) := by decide +kernel
theorem dd_57_0 : decode (mB 57) 0 = .ok (.iload_n 1, 1) := by decide +kernel
theorem dd_57_1 : decode (mB 57) 1 = .ok (.invokestatic 83, 3) := by decide +kernel
theorem dd_57_4 : decode (mB 57) 4 = .ok (.ifCond .eq 10, 3) := by decide +kernel
theorem dd_57_7 : decode (mB 57) 7 = .ok (.iload_n 2, 1) := by decide +kernel
theorem dd_57_8 : decode (mB 57) 8 = .ok (.invokestatic 83, 3) := by decide +kernel
theorem dd_57_11 : decode (mB 57) 11 = .ok (.ifCond .ne 6, 3) := by decide +kernel
theorem dd_57_14 : decode (mB 57) 14 = .ok (.ldc 87, 2) := by decide +kernel
theorem dd_57_16 : decode (mB 57) 16 = .ok (.ireturn, 1) := by decide +kernel
theorem dd_57_17 : decode (mB 57) 17 = .ok (.iload_n 1, 1) := by decide +kernel
theorem dd_57_18 : decode (mB 57) 18 = .ok (.iload_n 2, 1) := by decide +kernel
theorem dd_57_19 : decode (mB 57) 19 = .ok (.if_icmp .eq 12, 3) := by decide +kernel
theorem dd_57_22 : decode (mB 57) 22 = .ok (.iload_n 3, 1) := by decide +kernel
theorem dd_57_23 : decode (mB 57) 23 = .ok (.iconst 1, 1) := by decide +kernel
theorem dd_57_24 : decode (mB 57) 24 = .ok (.iconst 3, 1) := by decide +kernel
theorem dd_57_25 : decode (mB 57) 25 = .ok (.invokestatic 88, 3) := by decide +kernel
theorem dd_57_28 : decode (mB 57) 28 = .ok (.ifCond .ne 6, 3) := by decide +kernel
theorem dd_57_31 : decode (mB 57) 31 = .ok (.ldc 92, 2) := by decide +kernel
theorem dd_57_33 : decode (mB 57) 33 = .ok (.ireturn, 1) := by decide +kernel
theorem dd_57_34 : decode (mB 57) 34 = .ok (.aload_n 0, 1) := by decide +kernel
theorem dd_57_35 : decode (mB 57) 35 = .ok (.getfield 12, 3) := by decide +kernel
theorem dd_57_38 : decode (mB 57) 38 = .ok (.iload_n 1, 1) := by decide +kernel
theorem dd_57_39 : decode (mB 57) 39 = .ok (.iload_n 2, 1) := by decide +kernel
theorem dd_57_40 : decode (mB 57) 40 = .ok (.invokevirtual 258, 3) := by decide +kernel
theorem dd_57_43 : decode (mB 57) 43 = .ok (.aload_n 0, 1) := by decide +kernel
theorem dd_57_44 : decode (mB 57) 44 = .ok (.getfield 12, 3) := by decide +kernel
theorem dd_57_47 : decode (mB 57) 47 = .ok (.iload_n 1, 1) := by decide +kernel
theorem dd_57_48 : decode (mB 57) 48 = .ok (.iload_n 2, 1) := by decide +kernel
theorem dd_57_49 : decode (mB 57) 49 = .ok (.iload_n 3, 1) := by decide +kernel
theorem dd_57_50 : decode (mB 57) 50 = .ok (.aload_n 0, 1) := by decide +kernel
theorem dd_57_51 : decode (mB 57) 51 = .ok (.getfield 55, 3) := by decide +kernel
theorem dd_57_54 : decode (mB 57) 54 = .ok (.getfield 108, 3) := by decide +kernel
theorem dd_57_57 : decode (mB 57) 57 = .ok (.iload 4, 2) := by decide +kernel
theorem dd_57_59 : decode (mB 57) 59 = .ok (.invokevirtual 261, 3) := by decide +kernel
theorem dd_57_62 : decode (mB 57) 62 = .ok (.istore 6, 2) := by decide +kernel
theorem dd_57_64 : decode (mB 57) 64 = .ok (.iload 6, 2) := by decide +kernel
theorem dd_57_66 : decode (mB 57) 66 = .ok (.ifCond .ne 5, 3) := by decide +kernel
theorem dd_57_69 : decode (mB 57) 69 = .ok (.iconst (-1), 1) := by decide +kernel
theorem dd_57_70 : decode (mB 57) 70 = .ok (.ireturn, 1) := by decide +kernel
theorem dd_57_71 : decode (mB 57) 71 = .ok (.iload 5, 2) := by decide +kernel
theorem dd_57_73 : decode (mB 57) 73 = .ok (.iconst (-1), 1) := by decide +kernel
theorem dd_57_74 : decode (mB 57) 74 = .ok (.if_icmp .ne 11, 3) := by decide +kernel
theorem dd_57_77 : decode (mB 57) 77 = .ok (.iload 6, 2) := by decide +kernel
theorem dd_57_79 : decode (mB 57) 79 = .ok (.invokestatic 250, 3) := by decide +kernel
theorem dd_57_82 : decode (mB 57) 82 = .ok (.goto 10, 3) := by decide +kernel
theorem dd_57_85 : decode (mB 57) 85 = .ok (.iload 6, 2) := by decide +kernel
theorem dd_57_87 : decode (mB 57) 87 = .ok (.iload 5, 2) := by decide +kernel
theorem dd_57_89 : decode (mB 57) 89 = .ok (.invokestatic 255, 3) := by decide +kernel
theorem dd_57_92 : decode (mB 57) 92 = .ok (.ireturn, 1) := by decide +kernel
theorem dd_58_0 : decode (mB 58) 0 = .ok (.iload_n 1, 1) := by decide +kernel
theorem dd_58_1 : decode (mB 58) 1 = .ok (.iload_n 2, 1) := by decide +kernel
theorem dd_58_2 : decode (mB 58) 2 = .ok (.invokestatic 53, 3) := by decide +kernel
theorem dd_58_5 : decode (mB 58) 5 = .ok (.istore_n 3, 1) := by decide +kernel
theorem dd_58_6 : decode (mB 58) 6 = .ok (.iload_n 3, 1) := by decide +kernel
theorem dd_58_7 : decode (mB 58) 7 = .ok (.iconst (-1), 1) := by decide +kernel
theorem dd_58_8 : decode (mB 58) 8 = .ok (.if_icmp .eq 13, 3) := by decide +kernel
theorem dd_58_11 : decode (mB 58) 11 = .ok (.aload_n 0, 1) := by decide +kernel
theorem dd_58_12 : decode (mB 58) 12 = .ok (.getfield 43, 3) := by decide +kernel
theorem dd_58_15 : decode (mB 58) 15 = .ok (.iload_n 3, 1) := by decide +kernel
theorem dd_58_16 : decode (mB 58) 16 = .ok (.iaload, 1) := by decide +kernel
theorem dd_58_17 : decode (mB 58) 17 = .ok (.iconst (-1), 1) := by decide +kernel
theorem dd_58_18 : decode (mB 58) 18 = .ok (.if_icmp .eq 4, 3) := by decide +kernel
theorem dd_58_21 : decode (mB 58) 21 = .ok (.return_, 1) := by decide +kernel
theorem dd_58_22 : decode (mB 58) 22 = .ok (.aload_n 0, 1) := by decide +kernel
theorem dd_58_23 : decode (mB 58) 23 = .ok (.getfield 40, 3) := by decide +kernel
theorem dd_58_26 : decode (mB 58) 26 = .ok (.iload_n 3, 1) := by decide +kernel
theorem dd_58_27 : decode (mB 58) 27 = .ok (.aload_n 0, 1) := by decide +kernel
theorem dd_58_28 : decode (mB 58) 28 = .ok (.getfield 37, 3) := by decide +kernel
theorem dd_58_31 : decode (mB 58) 31 = .ok (.iastore, 1) := by decide +kernel
theorem dd_58_32 : decode (mB 58) 32 = .ok (.iconst 0, 1) := by decide +kernel
theorem dd_58_33 : decode (mB 58) 33 = .ok (.istore 4, 2) := by decide +kernel
theorem dd_58_35 : decode (mB 58) 35 = .ok (.iload 4, 2) := by decide +kernel
theorem dd_58_37 : decode (mB 58) 37 = .ok (.bipush 20, 2) := by decide +kernel
theorem dd_58_39 : decode (mB 58) 39 = .ok (.if_icmp .ge 62, 3) := by decide +kernel
theorem dd_58_42 : decode (mB 58) 42 = .ok (.aload_n 0, 1) := by decide +kernel
theorem dd_58_43 : decode (mB 58) 43 = .ok (.iload 4, 2) := by decide +kernel
theorem dd_58_45 : decode (mB 58) 45 = .ok (.iload_n 1, 1) := by decide +kernel
theorem dd_58_46 : decode (mB 58) 46 = .ok (.invokevirtual 49, 3) := by decide +kernel
theorem dd_58_49 : decode (mB 58) 49 = .ok (.istore 5, 2) := by decide +kernel
theorem dd_58_51 : decode (mB 58) 51 = .ok (.iload 5, 2) := by decide +kernel
theorem dd_58_53 : decode (mB 58) 53 = .ok (.iload_n 2, 1) := by decide +kernel
theorem dd_58_54 : decode (mB 58) 54 = .ok (.if_icmp .ne 25, 3) := by decide +kernel
theorem dd_58_57 : decode (mB 58) 57 = .ok (.aload_n 0, 1) := by decide +kernel
theorem dd_58_58 : decode (mB 58) 58 = .ok (.iconst 1, 1) := by decide +kernel
theorem dd_58_59 : decode (mB 58) 59 = .ok (.aload_n 0, 1) := by decide +kernel
theorem dd_58_60 : decode (mB 58) 60 = .ok (.getfield 18, 3) := by decide +kernel
theorem dd_58_63 : decode (mB 58) 63 = .ok (.iload 4, 2) := by decide +kernel
theorem dd_58_65 : decode (mB 58) 65 = .ok (.iaload, 1) := by decide +kernel
theorem dd_58_66 : decode (mB 58) 66 = .ok (.iload 4, 2) := by decide +kernel
theorem dd_58_68 : decode (mB 58) 68 = .ok (.iconst 0, 1) := by decide +kernel
theorem dd_58_69 : decode (mB 58) 69 = .ok (.iconst 0, 1) := by decide +kernel
theorem dd_58_70 : decode (mB 58) 70 = .ok (.invokestatic 56, 3) := by decide +kernel
theorem dd_58_73 : decode (mB 58) 73 = .ok (.invokevirtual 62, 3) := by decide +kernel
theorem dd_58_76 : decode (mB 58) 76 = .ok (.goto 19, 3) := by decide +kernel
theorem dd_58_79 : decode (mB 58) 79 = .ok (.iload 5, 2) := by decide +kernel
theorem dd_58_81 : decode (mB 58) 81 = .ok (.iconst (-1), 1) := by decide +kernel
theorem dd_58_82 : decode (mB 58) 82 = .ok (.if_icmp .eq 13, 3) := by decide +kernel
theorem dd_58_85 : decode (mB 58) 85 = .ok (.aload_n 0, 1) := by decide +kernel
theorem dd_58_86 : decode (mB 58) 86 = .ok (.iload_n 1, 1) := by decide +kernel
theorem dd_58_87 : decode (mB 58) 87 = .ok (.iload_n 2, 1) := by decide +kernel
theorem dd_58_88 : decode (mB 58) 88 = .ok (.iload 4, 2) := by decide +kernel
theorem dd_58_90 : decode (mB 58) 90 = .ok (.iload 5, 2) := by decide +kernel
theorem dd_58_92 : decode (mB 58) 92 = .ok (.invokevirtual 66, 3) := by decide +kernel
theorem dd_58_95 : decode (mB 58) 95 = .ok (.iinc 4 1, 3) := by decide +kernel
theorem dd_58_98 : decode (mB 58) 98 = .ok (.goto (-63), 3) := by decide +kernel
theorem dd_58_101 : decode (mB 58) 101 = .ok (.aload_n 0, 1) := by decide +kernel
theorem dd_58_102 : decode (mB 58) 102 = .ok (.getfield 43, 3) := by decide +kernel
theorem dd_58_105 : decode (mB 58) 105 = .ok (.iload_n 3, 1) := by decide +kernel
theorem dd_58_106 : decode (mB 58) 106 = .ok (.aload_n 0, 1) := by decide +kernel
theorem dd_58_107 : decode (mB 58) 107 = .ok (.getfield 37, 3) := by decide +kernel
theorem dd_58_110 : decode (mB 58) 110 = .ok (.aload_n 0, 1) := by decide +kernel
theorem dd_58_111 : decode (mB 58) 111 = .ok (.getfield 40, 3) := by decide +kernel
theorem dd_58_114 : decode (mB 58) 114 = .ok (.iload_n 3, 1) := by decide +kernel
theorem dd_58_115 : decode (mB 58) 115 = .ok (.iaload, 1) := by decide +kernel
theorem dd_58_116 : decode (mB 58) 116 = .ok (.isub, 1) := by decide +kernel
theorem dd_58_117 : decode (mB 58) 117 = .ok (.iastore, 1) := by decide +kernel
theorem dd_58_118 : decode (mB 58) 118 = .ok (.aload_n 0, 1) := by decide +kernel
theorem dd_58_119 : decode (mB 58) 119 = .ok (.aload_n 0, 1) := by decide +kernel
theorem dd_58_120 : decode (mB 58) 120 = .ok (.getfield 40, 3) := by decide +kernel
theorem dd_58_123 : decode (mB 58) 123 = .ok (.iload_n 3, 1) := by decide +kernel
theorem dd_58_124 : decode (mB 58) 124 = .ok (.iaload, 1) := by decide +kernel
theorem dd_58_125 : decode (mB 58) 125 = .ok (.invokevirtual 70, 3) := by decide +kernel
theorem dd_58_128 : decode (mB 58) 128 = .ok (.return_, 1) := by decide +kernel
theorem dd_59_0 : decode (mB 59) 0 = .ok (.iload_n 0, 1) := by decide +kernel
theorem dd_59_1 : decode (mB 59) 1 = .ok (.ifCond .lt 19, 3) := by decide +kernel
theorem dd_59_4 : decode (mB 59) 4 = .ok (.iload_n 0, 1) := by decide +kernel
theorem dd_59_5 : decode (mB 59) 5 = .ok (.bipush 8, 2) := by decide +kernel
theorem dd_59_7 : decode (mB 59) 7 = .ok (.if_icmp .ge 13, 3) := by decide +kernel
theorem dd_59_10 : decode (mB 59) 10 = .ok (.iload_n 1, 1) := by decide +kernel
theorem dd_59_11 : decode (mB 59) 11 = .ok (.ifCond .lt 9, 3) := by decide +kernel
theorem dd_59_14 : decode (mB 59) 14 = .ok (.iload_n 1, 1) := by decide +kernel
theorem dd_59_15 : decode (mB 59) 15 = .ok (.bipush 8, 2) := by decide +kernel
theorem dd_59_17 : decode (mB 59) 17 = .ok (.if_icmp .lt 7, 3) := by decide +kernel
theorem dd_59_20 : decode (mB 59) 20 = .ok (.iconst (-1), 1) := by decide +kernel
theorem dd_59_21 : decode (mB 59) 21 = .ok (.goto 9, 3) := by decide +kernel
theorem dd_59_24 : decode (mB 59) 24 = .ok (.iload_n 0, 1) := by decide +kernel
theorem dd_59_25 : decode (mB 59) 25 = .ok (.bipush 8, 2) := by decide +kernel
theorem dd_59_27 : decode (mB 59) 27 = .ok (.imul, 1) := by decide +kernel
theorem dd_59_28 : decode (mB 59) 28 = .ok (.iload_n 1, 1) := by decide +kernel
theorem dd_59_29 : decode (mB 59) 29 = .ok (.iadd, 1) := by decide +kernel
theorem dd_59_30 : decode (mB 59) 30 = .ok (.ireturn, 1) := by decide +kernel
theorem dd_60_0 : decode (mB 60) 0 = .ok (.iload_n 0, 1) := by decide +kernel
theorem dd_60_1 : decode (mB 60) 1 = .ok (.bipush 25, 2) := by decide +kernel
theorem dd_60_3 : decode (mB 60) 3 = .ok (.ishl, 1) := by decide +kernel
theorem dd_60_4 : decode (mB 60) 4 = .ok (.iload_n 1, 1) := by decide +kernel
theorem dd_60_5 : decode (mB 60) 5 = .ok (.bipush 15, 2) := by decide +kernel
theorem dd_60_7 : decode (mB 60) 7 = .ok (.ishl, 1) := by decide +kernel
theorem dd_60_8 : decode (mB 60) 8 = .ok (.ior, 1) := by decide +kernel
theorem dd_60_9 : decode (mB 60) 9 = .ok (.iload_n 2, 1) := by decide +kernel
theorem dd_60_10 : decode (mB 60) 10 = .ok (.bipush 10, 2) := by decide +kernel
theorem dd_60_12 : decode (mB 60) 12 = .ok (.ishl, 1) := by decide +kernel
theorem dd_60_13 : decode (mB 60) 13 = .ok (.ior, 1) := by decide +kernel
theorem dd_60_14 : decode (mB 60) 14 = .ok (.iload_n 3, 1) := by decide +kernel
theorem dd_60_15 : decode (mB 60) 15 = .ok (.iconst 5, 1) := by decide +kernel
theorem dd_60_16 : decode (mB 60) 16 = .ok (.ishl, 1) := by decide +kernel
theorem dd_60_17 : decode (mB 60) 17 = .ok (.ior, 1) := by decide +kernel
theorem dd_60_18 : decode (mB 60) 18 = .ok (.iload 4, 2) := by decide +kernel
theorem dd_60_20 : decode (mB 60) 20 = .ok (.ior, 1) := by decide +kernel
theorem dd_60_21 : decode (mB 60) 21 = .ok (.ireturn, 1) := by decide +kernel
theorem dd_61_0 : decode (mB 61) 0 = .ok (.aload_n 0, 1) := by decide +kernel
theorem dd_61_1 : decode (mB 61) 1 = .ok (.getfield 37, 3) := by decide +kernel
theorem dd_61_4 : decode (mB 61) 4 = .ok (.sipush 4020, 3) := by decide +kernel
theorem dd_61_7 : decode (mB 61) 7 = .ok (.if_icmp .ge 23, 3) := by decide +kernel
theorem dd_61_10 : decode (mB 61) 10 = .ok (.aload_n 0, 1) := by decide +kernel
theorem dd_61_11 : decode (mB 61) 11 = .ok (.getfield 31, 3) := by decide +kernel
theorem dd_61_14 : decode (mB 61) 14 = .ok (.aload_n 0, 1) := by decide +kernel
theorem dd_61_15 : decode (mB 61) 15 = .ok (.getfield 37, 3) := by decide +kernel
theorem dd_61_18 : decode (mB 61) 18 = .ok (.iload_n 1, 1) := by decide +kernel
theorem dd_61_19 : decode (mB 61) 19 = .ok (.iastore, 1) := by decide +kernel
theorem dd_61_20 : decode (mB 61) 20 = .ok (.aload_n 0, 1) := by decide +kernel
theorem dd_61_21 : decode (mB 61) 21 = .ok (.dup, 1) := by decide +kernel
theorem dd_61_22 : decode (mB 61) 22 = .ok (.getfield 37, 3) := by decide +kernel
theorem dd_61_25 : decode (mB 61) 25 = .ok (.iconst 1, 1) := by decide +kernel
theorem dd_61_26 : decode (mB 61) 26 = .ok (.iadd, 1) := by decide +kernel
theorem dd_61_27 : decode (mB 61) 27 = .ok (.putfield 37, 3) := by decide +kernel
theorem dd_61_30 : decode (mB 61) 30 = .ok (.return_, 1) := by decide +kernel
theorem dd_62_0 : decode (mB 62) 0 = .ok (.iconst 0, 1) := by decide +kernel
theorem dd_62_1 : decode (mB 62) 1 = .ok (.istore 5, 2) := by decide +kernel
theorem dd_62_3 : decode (mB 62) 3 = .ok (.iload 5, 2) := by decide +kernel
theorem dd_62_5 : decode (mB 62) 5 = .ok (.bipush 20, 2) := by decide +kernel
theorem dd_62_7 : decode (mB 62) 7 = .ok (.if_icmp .ge 76, 3) := by decide +kernel
theorem dd_62_10 : decode (mB 62) 10 = .ok (.aload_n 0, 1) := by decide +kernel
theorem dd_62_11 : decode (mB 62) 11 = .ok (.iload 5, 2) := by decide +kernel
theorem dd_62_13 : decode (mB 62) 13 = .ok (.iload 4, 2) := by decide +kernel
theorem dd_62_15 : decode (mB 62) 15 = .ok (.invokevirtual 49, 3) := by decide +kernel
theorem dd_62_18 : decode (mB 62) 18 = .ok (.istore 6, 2) := by decide +kernel
theorem dd_62_20 : decode (mB 62) 20 = .ok (.iload 6, 2) := by decide +kernel
theorem dd_62_22 : decode (mB 62) 22 = .ok (.iload_n 2, 1) := by decide +kernel
theorem dd_62_23 : decode (mB 62) 23 = .ok (.if_icmp .ne 32, 3) := by decide +kernel
theorem dd_62_26 : decode (mB 62) 26 = .ok (.aload_n 0, 1) := by decide +kernel
theorem dd_62_27 : decode (mB 62) 27 = .ok (.iconst 2, 1) := by decide +kernel
theorem dd_62_28 : decode (mB 62) 28 = .ok (.aload_n 0, 1) := by decide +kernel
theorem dd_62_29 : decode (mB 62) 29 = .ok (.getfield 18, 3) := by decide +kernel
theorem dd_62_32 : decode (mB 62) 32 = .ok (.iload_n 3, 1) := by decide +kernel
theorem dd_62_33 : decode (mB 62) 33 = .ok (.iaload, 1) := by decide +kernel
theorem dd_62_34 : decode (mB 62) 34 = .ok (.aload_n 0, 1) := by decide +kernel
theorem dd_62_35 : decode (mB 62) 35 = .ok (.getfield 18, 3) := by decide +kernel
theorem dd_62_38 : decode (mB 62) 38 = .ok (.iload 5, 2) := by decide +kernel
theorem dd_62_40 : decode (mB 62) 40 = .ok (.iaload, 1) := by decide +kernel
theorem dd_62_41 : decode (mB 62) 41 = .ok (.iadd, 1) := by decide +kernel
theorem dd_62_42 : decode (mB 62) 42 = .ok (.iload_n 3, 1) := by decide +kernel
theorem dd_62_43 : decode (mB 62) 43 = .ok (.iload 5, 2) := by decide +kernel
theorem dd_62_45 : decode (mB 62) 45 = .ok (.iconst 0, 1) := by decide +kernel
theorem dd_62_46 : decode (mB 62) 46 = .ok (.invokestatic 56, 3) := by decide +kernel
theorem dd_62_49 : decode (mB 62) 49 = .ok (.invokevirtual 62, 3) := by decide +kernel
theorem dd_62_52 : decode (mB 62) 52 = .ok (.goto 25, 3) := by decide +kernel
theorem dd_62_55 : decode (mB 62) 55 = .ok (.iload 6, 2) := by decide +kernel
theorem dd_62_57 : decode (mB 62) 57 = .ok (.iconst (-1), 1) := by decide +kernel
theorem dd_62_58 : decode (mB 62) 58 = .ok (.if_icmp .eq 19, 3) := by decide +kernel
theorem dd_62_61 : decode (mB 62) 61 = .ok (.iload 6, 2) := by decide +kernel
theorem dd_62_63 : decode (mB 62) 63 = .ok (.iload_n 1, 1) := by decide +kernel
theorem dd_62_64 : decode (mB 62) 64 = .ok (.if_icmp .eq 13, 3) := by decide +kernel
theorem dd_62_67 : decode (mB 62) 67 = .ok (.aload_n 0, 1) := by decide +kernel
theorem dd_62_68 : decode (mB 62) 68 = .ok (.iload_n 2, 1) := by decide +kernel
theorem dd_62_69 : decode (mB 62) 69 = .ok (.iload_n 3, 1) := by decide +kernel
theorem dd_62_70 : decode (mB 62) 70 = .ok (.iload 5, 2) := by decide +kernel
theorem dd_62_72 : decode (mB 62) 72 = .ok (.iload 6, 2) := by decide +kernel
theorem dd_62_74 : decode (mB 62) 74 = .ok (.invokevirtual 73, 3) := by decide +kernel
theorem dd_62_77 : decode (mB 62) 77 = .ok (.iinc 5 1, 3) := by decide +kernel
theorem dd_62_80 : decode (mB 62) 80 = .ok (.goto (-77), 3) := by decide +kernel
theorem dd_62_83 : decode (mB 62) 83 = .ok (.return_, 1) := by decide +kernel
theorem dd_63_0 : decode (mB 63) 0 = .ok (.iconst 0, 1) := by decide +kernel
theorem dd_63_1 : decode (mB 63) 1 = .ok (.istore 5, 2) := by decide +kernel
theorem dd_63_3 : decode (mB 63) 3 = .ok (.iload 5, 2) := by decide +kernel
theorem dd_63_5 : decode (mB 63) 5 = .ok (.bipush 20, 2) := by decide +kernel
theorem dd_63_7 : decode (mB 63) 7 = .ok (.if_icmp .ge 54, 3) := by decide +kernel
theorem dd_63_10 : decode (mB 63) 10 = .ok (.aload_n 0, 1) := by decide +kernel
theorem dd_63_11 : decode (mB 63) 11 = .ok (.iload 5, 2) := by decide +kernel
theorem dd_63_13 : decode (mB 63) 13 = .ok (.iload 4, 2) := by decide +kernel
theorem dd_63_15 : decode (mB 63) 15 = .ok (.invokevirtual 49, 3) := by decide +kernel
theorem dd_63_18 : decode (mB 63) 18 = .ok (.iload_n 1, 1) := by decide +kernel
theorem dd_63_19 : decode (mB 63) 19 = .ok (.if_icmp .ne 36, 3) := by decide +kernel
theorem dd_63_22 : decode (mB 63) 22 = .ok (.aload_n 0, 1) := by decide +kernel
theorem dd_63_23 : decode (mB 63) 23 = .ok (.iconst 3, 1) := by decide +kernel
theorem dd_63_24 : decode (mB 63) 24 = .ok (.aload_n 0, 1) := by decide +kernel
theorem dd_63_25 : decode (mB 63) 25 = .ok (.getfield 18, 3) := by decide +kernel
theorem dd_63_28 : decode (mB 63) 28 = .ok (.iload_n 2, 1) := by decide +kernel
theorem dd_63_29 : decode (mB 63) 29 = .ok (.iaload, 1) := by decide +kernel
theorem dd_63_30 : decode (mB 63) 30 = .ok (.aload_n 0, 1) := by decide +kernel
theorem dd_63_31 : decode (mB 63) 31 = .ok (.getfield 18, 3) := by decide +kernel
theorem dd_63_34 : decode (mB 63) 34 = .ok (.iload_n 3, 1) := by decide +kernel
theorem dd_63_35 : decode (mB 63) 35 = .ok (.iaload, 1) := by decide +kernel
theorem dd_63_36 : decode (mB 63) 36 = .ok (.iadd, 1) := by decide +kernel
theorem dd_63_37 : decode (mB 63) 37 = .ok (.aload_n 0, 1) := by decide +kernel
theorem dd_63_38 : decode (mB 63) 38 = .ok (.getfield 18, 3) := by decide +kernel
theorem dd_63_41 : decode (mB 63) 41 = .ok (.iload 5, 2) := by decide +kernel
theorem dd_63_43 : decode (mB 63) 43 = .ok (.iaload, 1) := by decide +kernel
theorem dd_63_44 : decode (mB 63) 44 = .ok (.iadd, 1) := by decide +kernel
theorem dd_63_45 : decode (mB 63) 45 = .ok (.iload_n 2, 1) := by decide +kernel
theorem dd_63_46 : decode (mB 63) 46 = .ok (.iload_n 3, 1) := by decide +kernel
theorem dd_63_47 : decode (mB 63) 47 = .ok (.iload 5, 2) := by decide +kernel
theorem dd_63_49 : decode (mB 63) 49 = .ok (.invokestatic 56, 3) := by decide +kernel
theorem dd_63_52 : decode (mB 63) 52 = .ok (.invokevirtual 62, 3) := by decide +kernel
theorem dd_63_55 : decode (mB 63) 55 = .ok (.iinc 5 1, 3) := by decide +kernel
theorem dd_63_58 : decode (mB 63) 58 = .ok (.goto (-55), 3) := by decide +kernel
theorem dd_63_61 : decode (mB 63) 61 = .ok (.return_, 1) := by decide +kernel
theorem dd_64_0 : decode (mB 64) 0 = .ok (.iload_n 1, 1) := by decide +kernel
theorem dd_64_1 : decode (mB 64) 1 = .ok (.istore_n 2, 1) := by decide +kernel
theorem dd_64_2 : decode (mB 64) 2 = .ok (.iload_n 2, 1) := by decide +kernel
theorem dd_64_3 : decode (mB 64) 3 = .ok (.aload_n 0, 1) := by decide +kernel
theorem dd_64_4 : decode (mB 64) 4 = .ok (.getfield 37, 3) := by decide +kernel
theorem dd_64_7 : decode (mB 64) 7 = .ok (.if_icmp .ge 68, 3) := by decide +kernel
theorem dd_64_10 : decode (mB 64) 10 = .ok (.aload_n 0, 1) := by decide +kernel
theorem dd_64_11 : decode (mB 64) 11 = .ok (.getfield 31, 3) := by decide +kernel
theorem dd_64_14 : decode (mB 64) 14 = .ok (.iload_n 2, 1) := by decide +kernel
theorem dd_64_15 : decode (mB 64) 15 = .ok (.iaload, 1) := by decide +kernel
theorem dd_64_16 : decode (mB 64) 16 = .ok (.istore_n 3, 1) := by decide +kernel
theorem dd_64_17 : decode (mB 64) 17 = .ok (.iload_n 2, 1) := by decide +kernel
theorem dd_64_18 : decode (mB 64) 18 = .ok (.istore 4, 2) := by decide +kernel
theorem dd_64_20 : decode (mB 64) 20 = .ok (.iload 4, 2) := by decide +kernel
theorem dd_64_22 : decode (mB 64) 22 = .ok (.iload_n 1, 1) := by decide +kernel
theorem dd_64_23 : decode (mB 64) 23 = .ok (.if_icmp .le 38, 3) := by decide +kernel
theorem dd_64_26 : decode (mB 64) 26 = .ok (.aload_n 0, 1) := by decide +kernel
theorem dd_64_27 : decode (mB 64) 27 = .ok (.getfield 31, 3) := by decide +kernel
theorem dd_64_30 : decode (mB 64) 30 = .ok (.iload 4, 2) := by decide +kernel
theorem dd_64_32 : decode (mB 64) 32 = .ok (.iconst 1, 1) := by decide +kernel
theorem dd_64_33 : decode (mB 64) 33 = .ok (.isub, 1) := by decide +kernel
theorem dd_64_34 : decode (mB 64) 34 = .ok (.iaload, 1) := by decide +kernel
theorem dd_64_35 : decode (mB 64) 35 = .ok (.iload_n 3, 1) := by decide +kernel
theorem dd_64_36 : decode (mB 64) 36 = .ok (.if_icmp .le 25, 3) := by decide +kernel
theorem dd_64_39 : decode (mB 64) 39 = .ok (.aload_n 0, 1) := by decide +kernel
theorem dd_64_40 : decode (mB 64) 40 = .ok (.getfield 31, 3) := by decide +kernel
theorem dd_64_43 : decode (mB 64) 43 = .ok (.iload 4, 2) := by decide +kernel
theorem dd_64_45 : decode (mB 64) 45 = .ok (.aload_n 0, 1) := by decide +kernel
theorem dd_64_46 : decode (mB 64) 46 = .ok (.getfield 31, 3) := by decide +kernel
theorem dd_64_49 : decode (mB 64) 49 = .ok (.iload 4, 2) := by decide +kernel
theorem dd_64_51 : decode (mB 64) 51 = .ok (.iconst 1, 1) := by decide +kernel
theorem dd_64_52 : decode (mB 64) 52 = .ok (.isub, 1) := by decide +kernel
theorem dd_64_53 : decode (mB 64) 53 = .ok (.iaload, 1) := by decide +kernel
theorem dd_64_54 : decode (mB 64) 54 = .ok (.iastore, 1) := by decide +kernel
theorem dd_64_55 : decode (mB 64) 55 = .ok (.iinc 4 (-1), 3) := by decide +kernel
theorem dd_64_58 : decode (mB 64) 58 = .ok (.goto (-38), 3) := by decide +kernel
theorem dd_64_61 : decode (mB 64) 61 = .ok (.aload_n 0, 1) := by decide +kernel
theorem dd_64_62 : decode (mB 64) 62 = .ok (.getfield 31, 3) := by decide +kernel
theorem dd_64_65 : decode (mB 64) 65 = .ok (.iload 4, 2) := by decide +kernel
theorem dd_64_67 : decode (mB 64) 67 = .ok (.iload_n 3, 1) := by decide +kernel
theorem dd_64_68 : decode (mB 64) 68 = .ok (.iastore, 1) := by decide +kernel
theorem dd_64_69 : decode (mB 64) 69 = .ok (.iinc 2 1, 3) := by decide +kernel
theorem dd_64_72 : decode (mB 64) 72 = .ok (.goto (-70), 3) := by decide +kernel
theorem dd_64_75 : decode (mB 64) 75 = .ok (.iload_n 1, 1) := by decide +kernel
theorem dd_64_76 : decode (mB 64) 76 = .ok (.istore_n 2, 1) := by decide +kernel
theorem dd_64_77 : decode (mB 64) 77 = .ok (.iload_n 2, 1) := by decide +kernel
theorem dd_64_78 : decode (mB 64) 78 = .ok (.aload_n 0, 1) := by decide +kernel
theorem dd_64_79 : decode (mB 64) 79 = .ok (.getfield 37, 3) := by decide +kernel
theorem dd_64_82 : decode (mB 64) 82 = .ok (.if_icmp .ge 24, 3) := by decide +kernel
theorem dd_64_85 : decode (mB 64) 85 = .ok (.aload_n 0, 1) := by decide +kernel
theorem dd_64_86 : decode (mB 64) 86 = .ok (.getfield 34, 3) := by decide +kernel
theorem dd_64_89 : decode (mB 64) 89 = .ok (.iload_n 2, 1) := by decide +kernel
theorem dd_64_90 : decode (mB 64) 90 = .ok (.aload_n 0, 1) := by decide +kernel
theorem dd_64_91 : decode (mB 64) 91 = .ok (.getfield 31, 3) := by decide +kernel
theorem dd_64_94 : decode (mB 64) 94 = .ok (.iload_n 2, 1) := by decide +kernel
theorem dd_64_95 : decode (mB 64) 95 = .ok (.iaload, 1) := by decide +kernel
theorem dd_64_96 : decode (mB 64) 96 = .ok (.invokestatic 76, 3) := by decide +kernel
theorem dd_64_99 : decode (mB 64) 99 = .ok (.iastore, 1) := by decide +kernel
theorem dd_64_100 : decode (mB 64) 100 = .ok (.iinc 2 1, 3) := by decide +kernel
theorem dd_64_103 : decode (mB 64) 103 = .ok (.goto (-26), 3) := by decide +kernel
theorem dd_64_106 : decode (mB 64) 106 = .ok (.return_, 1) := by decide +kernel
theorem dd_65_0 : decode (mB 65) 0 = .ok (.iconst 0, 1) := by decide +kernel
theorem dd_65_1 : decode (mB 65) 1 = .ok (.istore_n 1, 1) := by decide +kernel
theorem dd_65_2 : decode (mB 65) 2 = .ok (.iconst 0, 1) := by decide +kernel
theorem dd_65_3 : decode (mB 65) 3 = .ok (.istore_n 2, 1) := by decide +kernel
theorem dd_65_4 : decode (mB 65) 4 = .ok (.iload_n 2, 1) := by decide +kernel
theorem dd_65_5 : decode (mB 65) 5 = .ok (.iconst 3, 1) := by decide +kernel
theorem dd_65_6 : decode (mB 65) 6 = .ok (.if_icmp .ge 26, 3) := by decide +kernel
theorem dd_65_9 : decode (mB 65) 9 = .ok (.iload_n 0, 1) := by decide +kernel
theorem dd_65_10 : decode (mB 65) 10 = .ok (.iload_n 2, 1) := by decide +kernel
theorem dd_65_11 : decode (mB 65) 11 = .ok (.invokestatic 11, 3) := by decide +kernel
theorem dd_65_14 : decode (mB 65) 14 = .ok (.istore_n 3, 1) := by decide +kernel
theorem dd_65_15 : decode (mB 65) 15 = .ok (.iload_n 3, 1) := by decide +kernel
theorem dd_65_16 : decode (mB 65) 16 = .ok (.iconst (-1), 1) := by decide +kernel
theorem dd_65_17 : decode (mB 65) 17 = .ok (.if_icmp .eq 9, 3) := by decide +kernel
theorem dd_65_20 : decode (mB 65) 20 = .ok (.iload_n 1, 1) := by decide +kernel
theorem dd_65_21 : decode (mB 65) 21 = .ok (.iconst 1, 1) := by decide +kernel
theorem dd_65_22 : decode (mB 65) 22 = .ok (.iload_n 3, 1) := by decide +kernel
theorem dd_65_23 : decode (mB 65) 23 = .ok (.ishl, 1) := by decide +kernel
theorem dd_65_24 : decode (mB 65) 24 = .ok (.ior, 1) := by decide +kernel
theorem dd_65_25 : decode (mB 65) 25 = .ok (.istore_n 1, 1) := by decide +kernel
theorem dd_65_26 : decode (mB 65) 26 = .ok (.iinc 2 1, 3) := by decide +kernel
theorem dd_65_29 : decode (mB 65) 29 = .ok (.goto (-25), 3) := by decide +kernel
theorem dd_65_32 : decode (mB 65) 32 = .ok (.iload_n 1, 1) := by decide +kernel
theorem dd_65_33 : decode (mB 65) 33 = .ok (.ireturn, 1) := by decide +kernel
theorem dd_66_0 : decode (mB 66) 0 = .ok (.iload_n 1, 1) := by decide +kernel
theorem dd_66_1 : decode (mB 66) 1 = .ok (.iload_n 2, 1) := by decide +kernel
theorem dd_66_2 : decode (mB 66) 2 = .ok (.invokestatic 53, 3) := by decide +kernel
theorem dd_66_5 : decode (mB 66) 5 = .ok (.istore 6, 2) := by decide +kernel
theorem dd_66_7 : decode (mB 66) 7 = .ok (.iload 6, 2) := by decide +kernel
theorem dd_66_9 : decode (mB 66) 9 = .ok (.iconst (-1), 1) := by decide +kernel
theorem dd_66_10 : decode (mB 66) 10 = .ok (.if_icmp .ne 5, 3) := by decide +kernel
theorem dd_66_13 : decode (mB 66) 13 = .ok (.iconst 0, 1) := by decide +kernel
theorem dd_66_14 : decode (mB 66) 14 = .ok (.ireturn, 1) := by decide +kernel
theorem dd_66_15 : decode (mB 66) 15 = .ok (.iload 5, 2) := by decide +kernel
theorem dd_66_17 : decode (mB 66) 17 = .ok (.istore 7, 2) := by decide +kernel
theorem dd_66_19 : decode (mB 66) 19 = .ok (.aload_n 0, 1) := by decide +kernel
theorem dd_66_20 : decode (mB 66) 20 = .ok (.getfield 40, 3) := by decide +kernel
theorem dd_66_23 : decode (mB 66) 23 = .ok (.iload 6, 2) := by decide +kernel
theorem dd_66_25 : decode (mB 66) 25 = .ok (.iaload, 1) := by decide +kernel
theorem dd_66_26 : decode (mB 66) 26 = .ok (.aload_n 0, 1) := by decide +kernel
theorem dd_66_27 : decode (mB 66) 27 = .ok (.getfield 43, 3) := by decide +kernel
theorem dd_66_30 : decode (mB 66) 30 = .ok (.iload 6, 2) := by decide +kernel
theorem dd_66_32 : decode (mB 66) 32 = .ok (.iaload, 1) := by decide +kernel
theorem dd_66_33 : decode (mB 66) 33 = .ok (.iadd, 1) := by decide +kernel
theorem dd_66_34 : decode (mB 66) 34 = .ok (.istore 8, 2) := by decide +kernel
theorem dd_66_36 : decode (mB 66) 36 = .ok (.aload_n 0, 1) := by decide +kernel
theorem dd_66_37 : decode (mB 66) 37 = .ok (.getfield 40, 3) := by decide +kernel
theorem dd_66_40 : decode (mB 66) 40 = .ok (.iload 6, 2) := by decide +kernel
theorem dd_66_42 : decode (mB 66) 42 = .ok (.iaload, 1) := by decide +kernel
theorem dd_66_43 : decode (mB 66) 43 = .ok (.istore 9, 2) := by decide +kernel
theorem dd_66_45 : decode (mB 66) 45 = .ok (.iload 9, 2) := by decide +kernel
theorem dd_66_47 : decode (mB 66) 47 = .ok (.iload 8, 2) := by decide +kernel
theorem dd_66_49 : decode (mB 66) 49 = .ok (.if_icmp .ge 57, 3) := by decide +kernel
theorem dd_66_52 : decode (mB 66) 52 = .ok (.aload_n 0, 1) := by decide +kernel
theorem dd_66_53 : decode (mB 66) 53 = .ok (.getfield 31, 3) := by decide +kernel
theorem dd_66_56 : decode (mB 66) 56 = .ok (.iload 9, 2) := by decide +kernel
theorem dd_66_58 : decode (mB 66) 58 = .ok (.iaload, 1) := by decide +kernel
theorem dd_66_59 : decode (mB 66) 59 = .ok (.iload_n 3, 1) := by decide +kernel
theorem dd_66_60 : decode (mB 66) 60 = .ok (.invokestatic 80, 3) := by decide +kernel
theorem dd_66_63 : decode (mB 66) 63 = .ok (.if_icmp .ge 43, 3) := by decide +kernel
theorem dd_66_66 : decode (mB 66) 66 = .ok (.aload_n 0, 1) := by decide +kernel
theorem dd_66_67 : decode (mB 66) 67 = .ok (.getfield 34, 3) := by decide +kernel
theorem dd_66_70 : decode (mB 66) 70 = .ok (.iload 9, 2) := by decide +kernel
theorem dd_66_72 : decode (mB 66) 72 = .ok (.iaload, 1) := by decide +kernel
theorem dd_66_73 : decode (mB 66) 73 = .ok (.iload 4, 2) := by decide +kernel
theorem dd_66_75 : decode (mB 66) 75 = .ok (.iconst (-1), 1) := by decide +kernel
theorem dd_66_76 : decode (mB 66) 76 = .ok (.ixor, 1) := by decide +kernel
theorem dd_66_77 : decode (mB 66) 77 = .ok (.iand, 1) := by decide +kernel
theorem dd_66_78 : decode (mB 66) 78 = .ok (.ifCond .eq 6, 3) := by decide +kernel
theorem dd_66_81 : decode (mB 66) 81 = .ok (.goto 19, 3) := by decide +kernel
theorem dd_66_84 : decode (mB 66) 84 = .ok (.iload 7, 2) := by decide +kernel
theorem dd_66_86 : decode (mB 66) 86 = .ok (.ifCond .ne 11, 3) := by decide +kernel
theorem dd_66_89 : decode (mB 66) 89 = .ok (.aload_n 0, 1) := by decide +kernel
theorem dd_66_90 : decode (mB 66) 90 = .ok (.getfield 31, 3) := by decide +kernel
theorem dd_66_93 : decode (mB 66) 93 = .ok (.iload 9, 2) := by decide +kernel
theorem dd_66_95 : decode (mB 66) 95 = .ok (.iaload, 1) := by decide +kernel
theorem dd_66_96 : decode (mB 66) 96 = .ok (.ireturn, 1) := by decide +kernel
theorem dd_66_97 : decode (mB 66) 97 = .ok (.iinc 7 (-1), 3) := by decide +kernel
theorem dd_66_100 : decode (mB 66) 100 = .ok (.iinc 9 1, 3) := by decide +kernel
theorem dd_66_103 : decode (mB 66) 103 = .ok (.goto (-58), 3) := by decide +kernel
theorem dd_66_106 : decode (mB 66) 106 = .ok (.iconst 0, 1) := by decide +kernel
theorem dd_66_107 : decode (mB 66) 107 = .ok (.ireturn, 1) := by decide +kernel
theorem dd_67_0 : decode (mB 67) 0 = .ok (.iload_n 0, 1) := by decide +kernel
theorem dd_67_1 : decode (mB 67) 1 = .ok (.iconst 1, 1) := by decide +kernel
theorem dd_67_2 : decode (mB 67) 2 = .ok (.iadd, 1) := by decide +kernel
theorem dd_67_3 : decode (mB 67) 3 = .ok (.bipush 25, 2) := by decide +kernel
theorem dd_67_5 : decode (mB 67) 5 = .ok (.ishl, 1) := by decide +kernel
theorem dd_67_6 : decode (mB 67) 6 = .ok (.ireturn, 1) := by decide +kernel
theorem dd_68_0 : decode (mB 68) 0 = .ok (.iload_n 1, 1) := by decide +kernel
theorem dd_68_1 : decode (mB 68) 1 = .ok (.iconst 0, 1) := by decide +kernel
theorem dd_68_2 : decode (mB 68) 2 = .ok (.sipush 200, 3) := by decide +kernel
theorem dd_68_5 : decode (mB 68) 5 = .ok (.invokestatic 88, 3) := by decide +kernel
theorem dd_68_8 : decode (mB 68) 8 = .ok (.ifCond .ne 6, 3) := by decide +kernel
theorem dd_68_11 : decode (mB 68) 11 = .ok (.ldc 92, 2) := by decide +kernel
theorem dd_68_13 : decode (mB 68) 13 = .ok (.ireturn, 1) := by decide +kernel
theorem dd_68_14 : decode (mB 68) 14 = .ok (.aload_n 0, 1) := by decide +kernel
theorem dd_68_15 : decode (mB 68) 15 = .ok (.getfield 55, 3) := by decide +kernel
theorem dd_68_18 : decode (mB 68) 18 = .ok (.getfield 129, 3) := by decide +kernel
theorem dd_68_21 : decode (mB 68) 21 = .ok (.iload_n 1, 1) := by decide +kernel
theorem dd_68_22 : decode (mB 68) 22 = .ok (.iadd, 1) := by decide +kernel
theorem dd_68_23 : decode (mB 68) 23 = .ok (.sipush 480, 3) := by decide +kernel
theorem dd_68_26 : decode (mB 68) 26 = .ok (.if_icmp .le 6, 3) := by decide +kernel
theorem dd_68_29 : decode (mB 68) 29 = .ok (.ldc 169, 2) := by decide +kernel
theorem dd_68_31 : decode (mB 68) 31 = .ok (.ireturn, 1) := by decide +kernel
theorem dd_68_32 : decode (mB 68) 32 = .ok (.aload_n 0, 1) := by decide +kernel
theorem dd_68_33 : decode (mB 68) 33 = .ok (.invokevirtual 97, 3) := by decide +kernel
theorem dd_68_36 : decode (mB 68) 36 = .ok (.aload_n 0, 1) := by decide +kernel
theorem dd_68_37 : decode (mB 68) 37 = .ok (.getfield 55, 3) := by decide +kernel
theorem dd_68_40 : decode (mB 68) 40 = .ok (.invokevirtual 264, 3) := by decide +kernel
theorem dd_68_43 : decode (mB 68) 43 = .ok (.iconst 0, 1) := by decide +kernel
theorem dd_68_44 : decode (mB 68) 44 = .ok (.istore_n 2, 1) := by decide +kernel
theorem dd_68_45 : decode (mB 68) 45 = .ok (.iconst 0, 1) := by decide +kernel
theorem dd_68_46 : decode (mB 68) 46 = .ok (.istore_n 3, 1) := by decide +kernel
theorem dd_68_47 : decode (mB 68) 47 = .ok (.iload_n 3, 1) := by decide +kernel
theorem dd_68_48 : decode (mB 68) 48 = .ok (.iload_n 1, 1) := by decide +kernel
theorem dd_68_49 : decode (mB 68) 49 = .ok (.if_icmp .ge 19, 3) := by decide +kernel
theorem dd_68_52 : decode (mB 68) 52 = .ok (.iload_n 2, 1) := by decide +kernel
theorem dd_68_53 : decode (mB 68) 53 = .ok (.aload_n 0, 1) := by decide +kernel
theorem dd_68_54 : decode (mB 68) 54 = .ok (.getfield 55, 3) := by decide +kernel
theorem dd_68_57 : decode (mB 68) 57 = .ok (.invokevirtual 267, 3) := by decide +kernel
theorem dd_68_60 : decode (mB 68) 60 = .ok (.iadd, 1) := by decide +kernel
theorem dd_68_61 : decode (mB 68) 61 = .ok (.istore_n 2, 1) := by decide +kernel
theorem dd_68_62 : decode (mB 68) 62 = .ok (.iinc 3 1, 3) := by decide +kernel
theorem dd_68_65 : decode (mB 68) 65 = .ok (.goto (-18), 3) := by decide +kernel
theorem dd_68_68 : decode (mB 68) 68 = .ok (.iload_n 2, 1) := by decide +kernel
theorem dd_68_69 : decode (mB 68) 69 = .ok (.ireturn, 1) := by decide +kernel
theorem dd_69_0 : decode (mB 69) 0 = .ok (.iconst 0, 1) := by decide +kernel
theorem dd_69_1 : decode (mB 69) 1 = .ok (.istore_n 1, 1) := by decide +kernel
theorem dd_69_2 : decode (mB 69) 2 = .ok (.iload_n 1, 1) := by decide +kernel
theorem dd_69_3 : decode (mB 69) 3 = .ok (.aload_n 0, 1) := by decide +kernel
theorem dd_69_4 : decode (mB 69) 4 = .ok (.getfield 17, 3) := by decide +kernel
theorem dd_69_7 : decode (mB 69) 7 = .ok (.if_icmp .ge 34, 3) := by decide +kernel
theorem dd_69_10 : decode (mB 69) 10 = .ok (.aload_n 0, 1) := by decide +kernel
theorem dd_69_11 : decode (mB 69) 11 = .ok (.getfield 59, 3) := by decide +kernel
theorem dd_69_14 : decode (mB 69) 14 = .ok (.aload_n 0, 1) := by decide +kernel
theorem dd_69_15 : decode (mB 69) 15 = .ok (.getfield 11, 3) := by decide +kernel
theorem dd_69_18 : decode (mB 69) 18 = .ok (.iload_n 1, 1) := by decide +kernel
theorem dd_69_19 : decode (mB 69) 19 = .ok (.aaload, 1) := by decide +kernel
theorem dd_69_20 : decode (mB 69) 20 = .ok (.getfield 134, 3) := by decide +kernel
theorem dd_69_23 : decode (mB 69) 23 = .ok (.aload_n 0, 1) := by decide +kernel
theorem dd_69_24 : decode (mB 69) 24 = .ok (.getfield 11, 3) := by decide +kernel
theorem dd_69_27 : decode (mB 69) 27 = .ok (.iload_n 1, 1) := by decide +kernel
theorem dd_69_28 : decode (mB 69) 28 = .ok (.aaload, 1) := by decide +kernel
theorem dd_69_29 : decode (mB 69) 29 = .ok (.getfield 137, 3) := by decide +kernel
theorem dd_69_32 : decode (mB 69) 32 = .ok (.invokevirtual 167, 3) := by decide +kernel
theorem dd_69_35 : decode (mB 69) 35 = .ok (.iinc 1 1, 3) := by decide +kernel
theorem dd_69_38 : decode (mB 69) 38 = .ok (.goto (-36), 3) := by decide +kernel
theorem dd_69_41 : decode (mB 69) 41 = .ok (.return_, 1) := by decide +kernel
theorem dd_70_0 : decode (mB 70) 0 = .ok (.aload_n 0, 1) := by decide +kernel
theorem dd_70_1 : decode (mB 70) 1 = .ok (.getfield 67, 3) := by decide +kernel
theorem dd_70_4 : decode (mB 70) 4 = .ok (.aload_n 0, 1) := by decide +kernel
theorem dd_70_5 : decode (mB 70) 5 = .ok (.getfield 21, 3) := by decide +kernel
theorem dd_70_8 : decode (mB 70) 8 = .ok (.aload_n 0, 1) := by decide +kernel
theorem dd_70_9 : decode (mB 70) 9 = .ok (.getfield 43, 3) := by decide +kernel
theorem dd_70_12 : decode (mB 70) 12 = .ok (.invokevirtual 88, 3) := by decide +kernel
theorem dd_70_15 : decode (mB 70) 15 = .ok (.aload_n 0, 1) := by decide +kernel
theorem dd_70_16 : decode (mB 70) 16 = .ok (.aload_n 0, 1) := by decide +kernel
theorem dd_70_17 : decode (mB 70) 17 = .ok (.getfield 34, 3) := by decide +kernel
theorem dd_70_20 : decode (mB 70) 20 = .ok (.aload_n 0, 1) := by decide +kernel
theorem dd_70_21 : decode (mB 70) 21 = .ok (.getfield 63, 3) := by decide +kernel
theorem dd_70_24 : decode (mB 70) 24 = .ok (.aload_n 0, 1) := by decide +kernel
theorem dd_70_25 : decode (mB 70) 25 = .ok (.getfield 21, 3) := by decide +kernel
theorem dd_70_28 : decode (mB 70) 28 = .ok (.invokevirtual 189, 3) := by decide +kernel
theorem dd_70_31 : decode (mB 70) 31 = .ok (.iconst (-1), 1) := by decide +kernel
theorem dd_70_32 : decode (mB 70) 32 = .ok (.ixor, 1) := by decide +kernel
theorem dd_70_33 : decode (mB 70) 33 = .ok (.iand, 1) := by decide +kernel
theorem dd_70_34 : decode (mB 70) 34 = .ok (.putfield 37, 3) := by decide +kernel
theorem dd_70_37 : decode (mB 70) 37 = .ok (.aload_n 0, 1) := by decide +kernel
theorem dd_70_38 : decode (mB 70) 38 = .ok (.invokevirtual 194, 3) := by decide +kernel
theorem dd_70_41 : decode (mB 70) 41 = .ok (.aload_n 0, 1) := by decide +kernel
theorem dd_70_42 : decode (mB 70) 42 = .ok (.invokevirtual 197, 3) := by decide +kernel
theorem dd_70_45 : decode (mB 70) 45 = .ok (.aload_n 0, 1) := by decide +kernel
theorem dd_70_46 : decode (mB 70) 46 = .ok (.invokevirtual 200, 3) := by decide +kernel
theorem dd_70_49 : decode (mB 70) 49 = .ok (.aload_n 0, 1) := by decide +kernel
theorem dd_70_50 : decode (mB 70) 50 = .ok (.invokevirtual 203, 3) := by decide +kernel
theorem dd_70_53 : decode (mB 70) 53 = .ok (.istore_n 1, 1) := by decide +kernel
theorem dd_70_54 : decode (mB 70) 54 = .ok (.aload_n 0, 1) := by decide +kernel
theorem dd_70_55 : decode (mB 70) 55 = .ok (.invokevirtual 206, 3) := by decide +kernel
theorem dd_70_58 : decode (mB 70) 58 = .ok (.aload_n 0, 1) := by decide +kernel
theorem dd_70_59 : decode (mB 70) 59 = .ok (.dup, 1) := by decide +kernel
theorem dd_70_60 : decode (mB 70) 60 = .ok (.getfield 21, 3) := by decide +kernel
theorem dd_70_63 : decode (mB 70) 63 = .ok (.iconst 1, 1) := by decide +kernel
theorem dd_70_64 : decode (mB 70) 64 = .ok (.iadd, 1) := by decide +kernel
theorem dd_70_65 : decode (mB 70) 65 = .ok (.putfield 21, 3) := by decide +kernel
theorem dd_70_68 : decode (mB 70) 68 = .ok (.iload_n 1, 1) := by decide +kernel
theorem dd_70_69 : decode (mB 70) 69 = .ok (.ireturn, 1) := by decide +kernel
theorem dd_71_0 : decode (mB 71) 0 = .ok (.iconst 0, 1) := by decide +kernel
theorem dd_71_1 : decode (mB 71) 1 = .ok (.istore_n 2, 1) := by decide +kernel
theorem dd_71_2 : decode (mB 71) 2 = .ok (.iconst 0, 1) := by decide +kernel
theorem dd_71_3 : decode (mB 71) 3 = .ok (.istore_n 3, 1) := by decide +kernel
theorem dd_71_4 : decode (mB 71) 4 = .ok (.iload_n 3, 1) := by decide +kernel
theorem dd_71_5 : decode (mB 71) 5 = .ok (.aload_n 0, 1) := by decide +kernel
theorem dd_71_6 : decode (mB 71) 6 = .ok (.getfield 24, 3) := by decide +kernel
theorem dd_71_9 : decode (mB 71) 9 = .ok (.if_icmp .ge 39, 3) := by decide +kernel
theorem dd_71_12 : decode (mB 71) 12 = .ok (.iload_n 1, 1) := by decide +kernel
theorem dd_71_13 : decode (mB 71) 13 = .ok (.aload_n 0, 1) := by decide +kernel
theorem dd_71_14 : decode (mB 71) 14 = .ok (.getfield 18, 3) := by decide +kernel
theorem dd_71_17 : decode (mB 71) 17 = .ok (.iload_n 3, 1) := by decide +kernel
theorem dd_71_18 : decode (mB 71) 18 = .ok (.iaload, 1) := by decide +kernel
theorem dd_71_19 : decode (mB 71) 19 = .ok (.aload_n 0, 1) := by decide +kernel
theorem dd_71_20 : decode (mB 71) 20 = .ok (.getfield 21, 3) := by decide +kernel
theorem dd_71_23 : decode (mB 71) 23 = .ok (.iload_n 3, 1) := by decide +kernel
theorem dd_71_24 : decode (mB 71) 24 = .ok (.iaload, 1) := by decide +kernel
theorem dd_71_25 : decode (mB 71) 25 = .ok (.invokestatic 28, 3) := by decide +kernel
theorem dd_71_28 : decode (mB 71) 28 = .ok (.ifCond .eq 14, 3) := by decide +kernel
theorem dd_71_31 : decode (mB 71) 31 = .ok (.iload_n 2, 1) := by decide +kernel
theorem dd_71_32 : decode (mB 71) 32 = .ok (.iconst 1, 1) := by decide +kernel
theorem dd_71_33 : decode (mB 71) 33 = .ok (.aload_n 0, 1) := by decide +kernel
theorem dd_71_34 : decode (mB 71) 34 = .ok (.getfield 9, 3) := by decide +kernel
theorem dd_71_37 : decode (mB 71) 37 = .ok (.iload_n 3, 1) := by decide +kernel
theorem dd_71_38 : decode (mB 71) 38 = .ok (.iaload, 1) := by decide +kernel
theorem dd_71_39 : decode (mB 71) 39 = .ok (.ishl, 1) := by decide +kernel
theorem dd_71_40 : decode (mB 71) 40 = .ok (.ior, 1) := by decide +kernel
theorem dd_71_41 : decode (mB 71) 41 = .ok (.istore_n 2, 1) := by decide +kernel
theorem dd_71_42 : decode (mB 71) 42 = .ok (.iinc 3 1, 3) := by decide +kernel
theorem dd_71_45 : decode (mB 71) 45 = .ok (.goto (-41), 3) := by decide +kernel
theorem dd_71_48 : decode (mB 71) 48 = .ok (.iload_n 2, 1) := by decide +kernel
theorem dd_71_49 : decode (mB 71) 49 = .ok (.ireturn, 1) := by decide +kernel
theorem dd_72_0 : decode (mB 72) 0 = .ok (.iconst 0, 1) := by decide +kernel
theorem dd_72_1 : decode (mB 72) 1 = .ok (.istore_n 1, 1) := by decide +kernel
theorem dd_72_2 : decode (mB 72) 2 = .ok (.iload_n 1, 1) := by decide +kernel
theorem dd_72_3 : decode (mB 72) 3 = .ok (.aload_n 0, 1) := by decide +kernel
theorem dd_72_4 : decode (mB 72) 4 = .ok (.getfield 17, 3) := by decide +kernel
theorem dd_72_7 : decode (mB 72) 7 = .ok (.if_icmp .ge 85, 3) := by decide +kernel
theorem dd_72_10 : decode (mB 72) 10 = .ok (.aload_n 0, 1) := by decide +kernel
theorem dd_72_11 : decode (mB 72) 11 = .ok (.getfield 11, 3) := by decide +kernel
theorem dd_72_14 : decode (mB 72) 14 = .ok (.iload_n 1, 1) := by decide +kernel
theorem dd_72_15 : decode (mB 72) 15 = .ok (.aaload, 1) := by decide +kernel
theorem dd_72_16 : decode (mB 72) 16 = .ok (.astore_n 2, 1) := by decide +kernel
theorem dd_72_17 : decode (mB 72) 17 = .ok (.aload_n 2, 1) := by decide +kernel
theorem dd_72_18 : decode (mB 72) 18 = .ok (.getfield 75, 3) := by decide +kernel
theorem dd_72_21 : decode (mB 72) 21 = .ok (.iconst 2, 1) := by decide +kernel
theorem dd_72_22 : decode (mB 72) 22 = .ok (.if_icmp .ne 28, 3) := by decide +kernel
theorem dd_72_25 : decode (mB 72) 25 = .ok (.aload_n 0, 1) := by decide +kernel
theorem dd_72_26 : decode (mB 72) 26 = .ok (.getfield 21, 3) := by decide +kernel
theorem dd_72_29 : decode (mB 72) 29 = .ok (.aload_n 2, 1) := by decide +kernel
theorem dd_72_30 : decode (mB 72) 30 = .ok (.getfield 85, 3) := by decide +kernel
theorem dd_72_33 : decode (mB 72) 33 = .ok (.isub, 1) := by decide +kernel
theorem dd_72_34 : decode (mB 72) 34 = .ok (.aload_n 2, 1) := by decide +kernel
theorem dd_72_35 : decode (mB 72) 35 = .ok (.getfield 179, 3) := by decide +kernel
theorem dd_72_38 : decode (mB 72) 38 = .ok (.if_icmp .lt 12, 3) := by decide +kernel
theorem dd_72_41 : decode (mB 72) 41 = .ok (.aload_n 0, 1) := by decide +kernel
theorem dd_72_42 : decode (mB 72) 42 = .ok (.aload_n 2, 1) := by decide +kernel
theorem dd_72_43 : decode (mB 72) 43 = .ok (.iconst 3, 1) := by decide +kernel
theorem dd_72_44 : decode (mB 72) 44 = .ok (.invokevirtual 209, 3) := by decide +kernel
theorem dd_72_47 : decode (mB 72) 47 = .ok (.goto 39, 3) := by decide +kernel
theorem dd_72_50 : decode (mB 72) 50 = .ok (.aload_n 2, 1) := by decide +kernel
theorem dd_72_51 : decode (mB 72) 51 = .ok (.getfield 144, 3) := by decide +kernel
theorem dd_72_54 : decode (mB 72) 54 = .ok (.aload_n 0, 1) := by decide +kernel
theorem dd_72_55 : decode (mB 72) 55 = .ok (.getfield 37, 3) := by decide +kernel
theorem dd_72_58 : decode (mB 72) 58 = .ok (.iconst (-1), 1) := by decide +kernel
theorem dd_72_59 : decode (mB 72) 59 = .ok (.ixor, 1) := by decide +kernel
theorem dd_72_60 : decode (mB 72) 60 = .ok (.iand, 1) := by decide +kernel
theorem dd_72_61 : decode (mB 72) 61 = .ok (.ifCond .eq 25, 3) := by decide +kernel
theorem dd_72_64 : decode (mB 72) 64 = .ok (.aload_n 2, 1) := by decide +kernel
theorem dd_72_65 : decode (mB 72) 65 = .ok (.getfield 75, 3) := by decide +kernel
theorem dd_72_68 : decode (mB 72) 68 = .ok (.iconst 2, 1) := by decide +kernel
theorem dd_72_69 : decode (mB 72) 69 = .ok (.if_icmp .ne 12, 3) := by decide +kernel
theorem dd_72_72 : decode (mB 72) 72 = .ok (.aload_n 0, 1) := by decide +kernel
theorem dd_72_73 : decode (mB 72) 73 = .ok (.aload_n 2, 1) := by decide +kernel
theorem dd_72_74 : decode (mB 72) 74 = .ok (.iconst 4, 1) := by decide +kernel
theorem dd_72_75 : decode (mB 72) 75 = .ok (.invokevirtual 209, 3) := by decide +kernel
theorem dd_72_78 : decode (mB 72) 78 = .ok (.goto 8, 3) := by decide +kernel
theorem dd_72_81 : decode (mB 72) 81 = .ok (.aload_n 0, 1) := by decide +kernel
theorem dd_72_82 : decode (mB 72) 82 = .ok (.aload_n 2, 1) := by decide +kernel
theorem dd_72_83 : decode (mB 72) 83 = .ok (.invokevirtual 157, 3) := by decide +kernel
theorem dd_72_86 : decode (mB 72) 86 = .ok (.iinc 1 1, 3) := by decide +kernel
theorem dd_72_89 : decode (mB 72) 89 = .ok (.goto (-87), 3) := by decide +kernel
theorem dd_72_92 : decode (mB 72) 92 = .ok (.return_, 1) := by decide +kernel
theorem dd_73_0 : decode (mB 73) 0 = .ok (.aload_n 0, 1) := by decide +kernel
theorem dd_73_1 : decode (mB 73) 1 = .ok (.dup, 1) := by decide +kernel
theorem dd_73_2 : decode (mB 73) 2 = .ok (.getfield 40, 3) := by decide +kernel
theorem dd_73_5 : decode (mB 73) 5 = .ok (.aload_n 1, 1) := by decide +kernel
theorem dd_73_6 : decode (mB 73) 6 = .ok (.getfield 144, 3) := by decide +kernel
theorem dd_73_9 : decode (mB 73) 9 = .ok (.iconst (-1), 1) := by decide +kernel
theorem dd_73_10 : decode (mB 73) 10 = .ok (.ixor, 1) := by decide +kernel
theorem dd_73_11 : decode (mB 73) 11 = .ok (.iand, 1) := by decide +kernel
theorem dd_73_12 : decode (mB 73) 12 = .ok (.putfield 40, 3) := by decide +kernel
theorem dd_73_15 : decode (mB 73) 15 = .ok (.aload_n 1, 1) := by decide +kernel
theorem dd_73_16 : decode (mB 73) 16 = .ok (.iconst 0, 1) := by decide +kernel
theorem dd_73_17 : decode (mB 73) 17 = .ok (.putfield 144, 3) := by decide +kernel
theorem dd_73_20 : decode (mB 73) 20 = .ok (.aload_n 1, 1) := by decide +kernel
theorem dd_73_21 : decode (mB 73) 21 = .ok (.iload_n 2, 1) := by decide +kernel
theorem dd_73_22 : decode (mB 73) 22 = .ok (.putfield 75, 3) := by decide +kernel
theorem dd_73_25 : decode (mB 73) 25 = .ok (.aload_n 1, 1) := by decide +kernel
theorem dd_73_26 : decode (mB 73) 26 = .ok (.aload_n 0, 1) := by decide +kernel
theorem dd_73_27 : decode (mB 73) 27 = .ok (.getfield 21, 3) := by decide +kernel
theorem dd_73_30 : decode (mB 73) 30 = .ok (.putfield 161, 3) := by decide +kernel
theorem dd_73_33 : decode (mB 73) 33 = .ok (.return_, 1) := by decide +kernel
theorem dd_74_0 : decode (mB 74) 0 = .ok (.aload_n 0, 1) := by decide +kernel
theorem dd_74_1 : decode (mB 74) 1 = .ok (.iconst 0, 1) := by decide +kernel
theorem dd_74_2 : decode (mB 74) 2 = .ok (.putfield 56, 3) := by decide +kernel
theorem dd_74_5 : decode (mB 74) 5 = .ok (.iconst 0, 1) := by decide +kernel
theorem dd_74_6 : decode (mB 74) 6 = .ok (.istore_n 1, 1) := by decide +kernel
theorem dd_74_7 : decode (mB 74) 7 = .ok (.iload_n 1, 1) := by decide +kernel
theorem dd_74_8 : decode (mB 74) 8 = .ok (.aload_n 0, 1) := by decide +kernel
theorem dd_74_9 : decode (mB 74) 9 = .ok (.getfield 17, 3) := by decide +kernel
theorem dd_74_12 : decode (mB 74) 12 = .ok (.if_icmp .ge 155, 3) := by decide +kernel
theorem dd_74_15 : decode (mB 74) 15 = .ok (.aload_n 0, 1) := by decide +kernel
theorem dd_74_16 : decode (mB 74) 16 = .ok (.getfield 11, 3) := by decide +kernel
theorem dd_74_19 : decode (mB 74) 19 = .ok (.iload_n 1, 1) := by decide +kernel
theorem dd_74_20 : decode (mB 74) 20 = .ok (.aaload, 1) := by decide +kernel
theorem dd_74_21 : decode (mB 74) 21 = .ok (.astore_n 2, 1) := by decide +kernel
theorem dd_74_22 : decode (mB 74) 22 = .ok (.aload_n 2, 1) := by decide +kernel
theorem dd_74_23 : decode (mB 74) 23 = .ok (.invokevirtual 140, 3) := by decide +kernel
theorem dd_74_26 : decode (mB 74) 26 = .ok (.ifCond .eq 135, 3) := by decide +kernel
theorem dd_74_29 : decode (mB 74) 29 = .ok (.aload_n 2, 1) := by decide +kernel
theorem dd_74_30 : decode (mB 74) 30 = .ok (.getfield 116, 3) := by decide +kernel
theorem dd_74_33 : decode (mB 74) 33 = .ok (.aload_n 0, 1) := by decide +kernel
theorem dd_74_34 : decode (mB 74) 34 = .ok (.getfield 21, 3) := by decide +kernel
theorem dd_74_37 : decode (mB 74) 37 = .ok (.if_icmp .le 6, 3) := by decide +kernel
theorem dd_74_40 : decode (mB 74) 40 = .ok (.goto 121, 3) := by decide +kernel
theorem dd_74_43 : decode (mB 74) 43 = .ok (.aload_n 2, 1) := by decide +kernel
theorem dd_74_44 : decode (mB 74) 44 = .ok (.aload_n 0, 1) := by decide +kernel
theorem dd_74_45 : decode (mB 74) 45 = .ok (.getfield 59, 3) := by decide +kernel
theorem dd_74_48 : decode (mB 74) 48 = .ok (.aload_n 2, 1) := by decide +kernel
theorem dd_74_49 : decode (mB 74) 49 = .ok (.getfield 134, 3) := by decide +kernel
theorem dd_74_52 : decode (mB 74) 52 = .ok (.aload_n 2, 1) := by decide +kernel
theorem dd_74_53 : decode (mB 74) 53 = .ok (.getfield 137, 3) := by decide +kernel
theorem dd_74_56 : decode (mB 74) 56 = .ok (.aload_n 0, 1) := by decide +kernel
theorem dd_74_57 : decode (mB 74) 57 = .ok (.getfield 67, 3) := by decide +kernel
theorem dd_74_60 : decode (mB 74) 60 = .ok (.getfield 216, 3) := by decide +kernel
theorem dd_74_63 : decode (mB 74) 63 = .ok (.aload_n 0, 1) := by decide +kernel
theorem dd_74_64 : decode (mB 74) 64 = .ok (.getfield 34, 3) := by decide +kernel
theorem dd_74_67 : decode (mB 74) 67 = .ok (.aload_n 0, 1) := by decide +kernel
theorem dd_74_68 : decode (mB 74) 68 = .ok (.getfield 34, 3) := by decide +kernel
theorem dd_74_71 : decode (mB 74) 71 = .ok (.invokevirtual 219, 3) := by decide +kernel
theorem dd_74_74 : decode (mB 74) 74 = .ok (.putfield 223, 3) := by decide +kernel
theorem dd_74_77 : decode (mB 74) 77 = .ok (.aload_n 2, 1) := by decide +kernel
theorem dd_74_78 : decode (mB 74) 78 = .ok (.aload_n 0, 1) := by decide +kernel
theorem dd_74_79 : decode (mB 74) 79 = .ok (.getfield 67, 3) := by decide +kernel
theorem dd_74_82 : decode (mB 74) 82 = .ok (.aload_n 2, 1) := by decide +kernel
theorem dd_74_83 : decode (mB 74) 83 = .ok (.invokevirtual 226, 3) := by decide +kernel
theorem dd_74_86 : decode (mB 74) 86 = .ok (.ldc2_w 230, 3) := by decide +kernel
theorem dd_74_89 : decode (mB 74) 89 = .ok (.lmul, 1) := by decide +kernel
theorem dd_74_90 : decode (mB 74) 90 = .ok (.iload_n 1, 1) := by decide +kernel
theorem dd_74_91 : decode (mB 74) 91 = .ok (.i2l, 1) := by decide +kernel
theorem dd_74_92 : decode (mB 74) 92 = .ok (.ladd, 1) := by decide +kernel
theorem dd_74_93 : decode (mB 74) 93 = .ok (.putfield 232, 3) := by decide +kernel
theorem dd_74_96 : decode (mB 74) 96 = .ok (.aload_n 0, 1) := by decide +kernel
theorem dd_74_97 : decode (mB 74) 97 = .ok (.getfield 56, 3) := by decide +kernel
theorem dd_74_100 : decode (mB 74) 100 = .ok (.istore_n 3, 1) := by decide +kernel
theorem dd_74_101 : decode (mB 74) 101 = .ok (.iload_n 3, 1) := by decide +kernel
theorem dd_74_102 : decode (mB 74) 102 = .ok (.ifCond .le 42, 3) := by decide +kernel
theorem dd_74_105 : decode (mB 74) 105 = .ok (.aload_n 0, 1) := by decide +kernel
theorem dd_74_106 : decode (mB 74) 106 = .ok (.getfield 53, 3) := by decide +kernel
theorem dd_74_109 : decode (mB 74) 109 = .ok (.iload_n 3, 1) := by decide +kernel
theorem dd_74_110 : decode (mB 74) 110 = .ok (.iconst 1, 1) := by decide +kernel
theorem dd_74_111 : decode (mB 74) 111 = .ok (.isub, 1) := by decide +kernel
theorem dd_74_112 : decode (mB 74) 112 = .ok (.aaload, 1) := by decide +kernel
theorem dd_74_113 : decode (mB 74) 113 = .ok (.getfield 232, 3) := by decide +kernel
theorem dd_74_116 : decode (mB 74) 116 = .ok (.aload_n 2, 1) := by decide +kernel
theorem dd_74_117 : decode (mB 74) 117 = .ok (.getfield 232, 3) := by decide +kernel
theorem dd_74_120 : decode (mB 74) 120 = .ok (.lcmp, 1) := by decide +kernel
theorem dd_74_121 : decode (mB 74) 121 = .ok (.ifCond .le 23, 3) := by decide +kernel
theorem dd_74_124 : decode (mB 74) 124 = .ok (.aload_n 0, 1) := by decide +kernel
theorem dd_74_125 : decode (mB 74) 125 = .ok (.getfield 53, 3) := by decide +kernel
theorem dd_74_128 : decode (mB 74) 128 = .ok (.iload_n 3, 1) := by decide +kernel
theorem dd_74_129 : decode (mB 74) 129 = .ok (.aload_n 0, 1) := by decide +kernel
theorem dd_74_130 : decode (mB 74) 130 = .ok (.getfield 53, 3) := by decide +kernel
theorem dd_74_133 : decode (mB 74) 133 = .ok (.iload_n 3, 1) := by decide +kernel
theorem dd_74_134 : decode (mB 74) 134 = .ok (.iconst 1, 1) := by decide +kernel
theorem dd_74_135 : decode (mB 74) 135 = .ok (.isub, 1) := by decide +kernel
theorem dd_74_136 : decode (mB 74) 136 = .ok (.aaload, 1) := by decide +kernel
theorem dd_74_137 : decode (mB 74) 137 = .ok (.aastore, 1) := by decide +kernel
theorem dd_74_138 : decode (mB 74) 138 = .ok (.iinc 3 (-1), 3) := by decide +kernel
theorem dd_74_141 : decode (mB 74) 141 = .ok (.goto (-40), 3) := by decide +kernel
theorem dd_74_144 : decode (mB 74) 144 = .ok (.aload_n 0, 1) := by decide +kernel
theorem dd_74_145 : decode (mB 74) 145 = .ok (.getfield 53, 3) := by decide +kernel
theorem dd_74_148 : decode (mB 74) 148 = .ok (.iload_n 3, 1) := by decide +kernel
theorem dd_74_149 : decode (mB 74) 149 = .ok (.aload_n 2, 1) := by decide +kernel
theorem dd_74_150 : decode (mB 74) 150 = .ok (.aastore, 1) := by decide +kernel
theorem dd_74_151 : decode (mB 74) 151 = .ok (.aload_n 0, 1) := by decide +kernel
theorem dd_74_152 : decode (mB 74) 152 = .ok (.dup, 1) := by decide +kernel
theorem dd_74_153 : decode (mB 74) 153 = .ok (.getfield 56, 3) := by decide +kernel
theorem dd_74_156 : decode (mB 74) 156 = .ok (.iconst 1, 1) := by decide +kernel
theorem dd_74_157 : decode (mB 74) 157 = .ok (.iadd, 1) := by decide +kernel
theorem dd_74_158 : decode (mB 74) 158 = .ok (.putfield 56, 3) := by decide +kernel
theorem dd_74_161 : decode (mB 74) 161 = .ok (.iinc 1 1, 3) := by decide +kernel
theorem dd_74_164 : decode (mB 74) 164 = .ok (.goto (-157), 3) := by decide +kernel
theorem dd_74_167 : decode (mB 74) 167 = .ok (.return_, 1) := by decide +kernel
theorem dd_75_0 : decode (mB 75) 0 = .ok (.iload_n 1, 1) := by decide +kernel
theorem dd_75_1 : decode (mB 75) 1 = .ok (.iload_n 2, 1) := by decide +kernel
theorem dd_75_2 : decode (mB 75) 2 = .ok (.invokestatic 53, 3) := by decide +kernel
theorem dd_75_5 : decode (mB 75) 5 = .ok (.istore 6, 2) := by decide +kernel
theorem dd_75_7 : decode (mB 75) 7 = .ok (.iload 6, 2) := by decide +kernel
theorem dd_75_9 : decode (mB 75) 9 = .ok (.iconst (-1), 1) := by decide +kernel
theorem dd_75_10 : decode (mB 75) 10 = .ok (.if_icmp .ne 5, 3) := by decide +kernel
theorem dd_75_13 : decode (mB 75) 13 = .ok (.iconst 0, 1) := by decide +kernel
theorem dd_75_14 : decode (mB 75) 14 = .ok (.ireturn, 1) := by decide +kernel
theorem dd_75_15 : decode (mB 75) 15 = .ok (.iload_n 3, 1) := by decide +kernel
theorem dd_75_16 : decode (mB 75) 16 = .ok (.invokestatic 80, 3) := by decide +kernel
theorem dd_75_19 : decode (mB 75) 19 = .ok (.istore 7, 2) := by decide +kernel
theorem dd_75_21 : decode (mB 75) 21 = .ok (.aload_n 0, 1) := by decide +kernel
theorem dd_75_22 : decode (mB 75) 22 = .ok (.getfield 40, 3) := by decide +kernel
theorem dd_75_25 : decode (mB 75) 25 = .ok (.iload 6, 2) := by decide +kernel
theorem dd_75_27 : decode (mB 75) 27 = .ok (.iaload, 1) := by decide +kernel
theorem dd_75_28 : decode (mB 75) 28 = .ok (.aload_n 0, 1) := by decide +kernel
theorem dd_75_29 : decode (mB 75) 29 = .ok (.getfield 43, 3) := by decide +kernel
theorem dd_75_32 : decode (mB 75) 32 = .ok (.iload 6, 2) := by decide +kernel
theorem dd_75_34 : decode (mB 75) 34 = .ok (.iaload, 1) := by decide +kernel
theorem dd_75_35 : decode (mB 75) 35 = .ok (.iadd, 1) := by decide +kernel
theorem dd_75_36 : decode (mB 75) 36 = .ok (.istore 8, 2) := by decide +kernel
theorem dd_75_38 : decode (mB 75) 38 = .ok (.aload_n 0, 1) := by decide +kernel
theorem dd_75_39 : decode (mB 75) 39 = .ok (.getfield 40, 3) := by decide +kernel
theorem dd_75_42 : decode (mB 75) 42 = .ok (.iload 6, 2) := by decide +kernel
theorem dd_75_44 : decode (mB 75) 44 = .ok (.iaload, 1) := by decide +kernel
theorem dd_75_45 : decode (mB 75) 45 = .ok (.istore 9, 2) := by decide +kernel
theorem dd_75_47 : decode (mB 75) 47 = .ok (.iload 9, 2) := by decide +kernel
theorem dd_75_49 : decode (mB 75) 49 = .ok (.iload 8, 2) := by decide +kernel
theorem dd_75_51 : decode (mB 75) 51 = .ok (.if_icmp .ge 65, 3) := by decide +kernel
theorem dd_75_54 : decode (mB 75) 54 = .ok (.aload_n 0, 1) := by decide +kernel
theorem dd_75_55 : decode (mB 75) 55 = .ok (.getfield 31, 3) := by decide +kernel
theorem dd_75_58 : decode (mB 75) 58 = .ok (.iload 9, 2) := by decide +kernel
theorem dd_75_60 : decode (mB 75) 60 = .ok (.iaload, 1) := by decide +kernel
theorem dd_75_61 : decode (mB 75) 61 = .ok (.iload 7, 2) := by decide +kernel
theorem dd_75_63 : decode (mB 75) 63 = .ok (.if_icmp .lt 5, 3) := by decide +kernel
theorem dd_75_66 : decode (mB 75) 66 = .ok (.iconst 0, 1) := by decide +kernel
theorem dd_75_67 : decode (mB 75) 67 = .ok (.ireturn, 1) := by decide +kernel
theorem dd_75_68 : decode (mB 75) 68 = .ok (.aload_n 0, 1) := by decide +kernel
theorem dd_75_69 : decode (mB 75) 69 = .ok (.getfield 34, 3) := by decide +kernel
theorem dd_75_72 : decode (mB 75) 72 = .ok (.iload 9, 2) := by decide +kernel
theorem dd_75_74 : decode (mB 75) 74 = .ok (.iaload, 1) := by decide +kernel
theorem dd_75_75 : decode (mB 75) 75 = .ok (.iload 4, 2) := by decide +kernel
theorem dd_75_77 : decode (mB 75) 77 = .ok (.iconst (-1), 1) := by decide +kernel
theorem dd_75_78 : decode (mB 75) 78 = .ok (.ixor, 1) := by decide +kernel
theorem dd_75_79 : decode (mB 75) 79 = .ok (.iand, 1) := by decide +kernel
theorem dd_75_80 : decode (mB 75) 80 = .ok (.ifCond .ne 30, 3) := by decide +kernel
theorem dd_75_83 : decode (mB 75) 83 = .ok (.iload 5, 2) := by decide +kernel
theorem dd_75_85 : decode (mB 75) 85 = .ok (.aload_n 0, 1) := by decide +kernel
theorem dd_75_86 : decode (mB 75) 86 = .ok (.getfield 31, 3) := by decide +kernel
theorem dd_75_89 : decode (mB 75) 89 = .ok (.iload 9, 2) := by decide +kernel
theorem dd_75_91 : decode (mB 75) 91 = .ok (.iaload, 1) := by decide +kernel
theorem dd_75_92 : decode (mB 75) 92 = .ok (.iconst 0, 1) := by decide +kernel
theorem dd_75_93 : decode (mB 75) 93 = .ok (.invokestatic 83, 3) := by decide +kernel
theorem dd_75_96 : decode (mB 75) 96 = .ok (.ishr, 1) := by decide +kernel
theorem dd_75_97 : decode (mB 75) 97 = .ok (.iconst 1, 1) := by decide +kernel
theorem dd_75_98 : decode (mB 75) 98 = .ok (.iand, 1) := by decide +kernel
theorem dd_75_99 : decode (mB 75) 99 = .ok (.ifCond .eq 11, 3) := by decide +kernel
theorem dd_75_102 : decode (mB 75) 102 = .ok (.aload_n 0, 1) := by decide +kernel
theorem dd_75_103 : decode (mB 75) 103 = .ok (.getfield 31, 3) := by decide +kernel
theorem dd_75_106 : decode (mB 75) 106 = .ok (.iload 9, 2) := by decide +kernel
theorem dd_75_108 : decode (mB 75) 108 = .ok (.iaload, 1) := by decide +kernel
theorem dd_75_109 : decode (mB 75) 109 = .ok (.ireturn, 1) := by decide +kernel
theorem dd_75_110 : decode (mB 75) 110 = .ok (.iinc 9 1, 3) := by decide +kernel
theorem dd_75_113 : decode (mB 75) 113 = .ok (.goto (-66), 3) := by decide +kernel
theorem dd_75_116 : decode (mB 75) 116 = .ok (.iconst 0, 1) := by decide +kernel
theorem dd_75_117 : decode (mB 75) 117 = .ok (.ireturn, 1) := by decide +kernel
theorem dd_76_0 : decode (mB 76) 0 = .ok (.lconst 0, 1) := by decide +kernel
theorem dd_76_1 : decode (mB 76) 1 = .ok (.lstore_n 2, 1) := by decide +kernel
theorem dd_76_2 : decode (mB 76) 2 = .ok (.iconst 0, 1) := by decide +kernel
theorem dd_76_3 : decode (mB 76) 3 = .ok (.istore 4, 2) := by decide +kernel
theorem dd_76_5 : decode (mB 76) 5 = .ok (.iload 4, 2) := by decide +kernel
theorem dd_76_7 : decode (mB 76) 7 = .ok (.aload_n 0, 1) := by decide +kernel
theorem dd_76_8 : decode (mB 76) 8 = .ok (.getfield 37, 3) := by decide +kernel
theorem dd_76_11 : decode (mB 76) 11 = .ok (.if_icmp .ge 28, 3) := by decide +kernel
theorem dd_76_14 : decode (mB 76) 14 = .ok (.lload_n 2, 1) := by decide +kernel
theorem dd_76_15 : decode (mB 76) 15 = .ok (.ldc2_w 104, 3) := by decide +kernel
theorem dd_76_18 : decode (mB 76) 18 = .ok (.lmul, 1) := by decide +kernel
theorem dd_76_19 : decode (mB 76) 19 = .ok (.aload_n 0, 1) := by decide +kernel
theorem dd_76_20 : decode (mB 76) 20 = .ok (.getfield 40, 3) := by decide +kernel
theorem dd_76_23 : decode (mB 76) 23 = .ok (.iload 4, 2) := by decide +kernel
theorem dd_76_25 : decode (mB 76) 25 = .ok (.iaload, 1) := by decide +kernel
theorem dd_76_26 : decode (mB 76) 26 = .ok (.aload_n 1, 1) := by decide +kernel
theorem dd_76_27 : decode (mB 76) 27 = .ok (.invokestatic 106, 3) := by decide +kernel
theorem dd_76_30 : decode (mB 76) 30 = .ok (.i2l, 1) := by decide +kernel
theorem dd_76_31 : decode (mB 76) 31 = .ok (.ladd, 1) := by decide +kernel
theorem dd_76_32 : decode (mB 76) 32 = .ok (.lstore_n 2, 1) := by decide +kernel
theorem dd_76_33 : decode (mB 76) 33 = .ok (.iinc 4 1, 3) := by decide +kernel
theorem dd_76_36 : decode (mB 76) 36 = .ok (.goto (-31), 3) := by decide +kernel
theorem dd_76_39 : decode (mB 76) 39 = .ok (.lload_n 2, 1) := by decide +kernel
theorem dd_76_40 : decode (mB 76) 40 = .ok (.lreturn, 1) := by decide +kernel
theorem dd_77_0 : decode (mB 77) 0 = .ok (.iload_n 0, 1) := by decide +kernel
theorem dd_77_1 : decode (mB 77) 1 = .ok (.tableswitch 69 0 3 #[31, 45, 59, 64], 31) := by decide +kernel
theorem dd_77_32 : decode (mB 77) 32 = .ok (.aload_n 1, 1) := by decide +kernel
theorem dd_77_33 : decode (mB 77) 33 = .ok (.getfield 110, 3) := by decide +kernel
theorem dd_77_36 : decode (mB 77) 36 = .ok (.iconst 2, 1) := by decide +kernel
theorem dd_77_37 : decode (mB 77) 37 = .ok (.if_icmp .ne 7, 3) := by decide +kernel
theorem dd_77_40 : decode (mB 77) 40 = .ok (.iconst 0, 1) := by decide +kernel
theorem dd_77_41 : decode (mB 77) 41 = .ok (.goto 4, 3) := by decide +kernel
theorem dd_77_44 : decode (mB 77) 44 = .ok (.iconst 1, 1) := by decide +kernel
theorem dd_77_45 : decode (mB 77) 45 = .ok (.ireturn, 1) := by decide +kernel
theorem dd_77_46 : decode (mB 77) 46 = .ok (.aload_n 1, 1) := by decide +kernel
theorem dd_77_47 : decode (mB 77) 47 = .ok (.getfield 110, 3) := by decide +kernel
theorem dd_77_50 : decode (mB 77) 50 = .ok (.iconst 1, 1) := by decide +kernel
theorem dd_77_51 : decode (mB 77) 51 = .ok (.if_icmp .ne 7, 3) := by decide +kernel
theorem dd_77_54 : decode (mB 77) 54 = .ok (.iconst 0, 1) := by decide +kernel
theorem dd_77_55 : decode (mB 77) 55 = .ok (.goto 4, 3) := by decide +kernel
theorem dd_77_58 : decode (mB 77) 58 = .ok (.iconst 1, 1) := by decide +kernel
theorem dd_77_59 : decode (mB 77) 59 = .ok (.ireturn, 1) := by decide +kernel
theorem dd_77_60 : decode (mB 77) 60 = .ok (.aload_n 1, 1) := by decide +kernel
theorem dd_77_61 : decode (mB 77) 61 = .ok (.getfield 114, 3) := by decide +kernel
theorem dd_77_64 : decode (mB 77) 64 = .ok (.ireturn, 1) := by decide +kernel
theorem dd_77_65 : decode (mB 77) 65 = .ok (.aload_n 1, 1) := by decide +kernel
theorem dd_77_66 : decode (mB 77) 66 = .ok (.getfield 117, 3) := by decide +kernel
theorem dd_77_69 : decode (mB 77) 69 = .ok (.ireturn, 1) := by decide +kernel
theorem dd_77_70 : decode (mB 77) 70 = .ok (.sipush 1023, 3) := by decide +kernel
theorem dd_77_73 : decode (mB 77) 73 = .ok (.aload_n 1, 1) := by decide +kernel
theorem dd_77_74 : decode (mB 77) 74 = .ok (.getfield 120, 3) := by decide +kernel
theorem dd_77_77 : decode (mB 77) 77 = .ok (.invokestatic 122, 3) := by decide +kernel
theorem dd_77_80 : decode (mB 77) 80 = .ok (.isub, 1) := by decide +kernel
theorem dd_77_81 : decode (mB 77) 81 = .ok (.ireturn, 1) := by decide +kernel
theorem dd_78_0 : decode (mB 78) 0 = .ok (.iconst 0, 1) := by decide +kernel
theorem dd_78_1 : decode (mB 78) 1 = .ok (.istore_n 1, 1) := by decide +kernel
theorem dd_78_2 : decode (mB 78) 2 = .ok (.iload_n 1, 1) := by decide +kernel
theorem dd_78_3 : decode (mB 78) 3 = .ok (.bipush 40, 2) := by decide +kernel
theorem dd_78_5 : decode (mB 78) 5 = .ok (.if_icmp .ge 42, 3) := by decide +kernel
theorem dd_78_8 : decode (mB 78) 8 = .ok (.aload_n 0, 1) := by decide +kernel
theorem dd_78_9 : decode (mB 78) 9 = .ok (.invokevirtual 236, 3) := by decide +kernel
theorem dd_78_12 : decode (mB 78) 12 = .ok (.ifCond .ne 4, 3) := by decide +kernel
theorem dd_78_15 : decode (mB 78) 15 = .ok (.return_, 1) := by decide +kernel
theorem dd_78_16 : decode (mB 78) 16 = .ok (.aload_n 0, 1) := by decide +kernel
theorem dd_78_17 : decode (mB 78) 17 = .ok (.invokevirtual 239, 3) := by decide +kernel
theorem dd_78_20 : decode (mB 78) 20 = .ok (.astore_n 2, 1) := by decide +kernel
theorem dd_78_21 : decode (mB 78) 21 = .ok (.aload_n 2, 1) := by decide +kernel
theorem dd_78_22 : decode (mB 78) 22 = .ok (.ifnonnull 4, 3) := by decide +kernel
theorem dd_78_25 : decode (mB 78) 25 = .ok (.return_, 1) := by decide +kernel
theorem dd_78_26 : decode (mB 78) 26 = .ok (.aload_n 0, 1) := by decide +kernel
theorem dd_78_27 : decode (mB 78) 27 = .ok (.aload_n 2, 1) := by decide +kernel
theorem dd_78_28 : decode (mB 78) 28 = .ok (.invokevirtual 157, 3) := by decide +kernel
theorem dd_78_31 : decode (mB 78) 31 = .ok (.aload_n 0, 1) := by decide +kernel
theorem dd_78_32 : decode (mB 78) 32 = .ok (.dup, 1) := by decide +kernel
theorem dd_78_33 : decode (mB 78) 33 = .ok (.getfield 24, 3) := by decide +kernel
theorem dd_78_36 : decode (mB 78) 36 = .ok (.iconst 1, 1) := by decide +kernel
theorem dd_78_37 : decode (mB 78) 37 = .ok (.iadd, 1) := by decide +kernel
theorem dd_78_38 : decode (mB 78) 38 = .ok (.putfield 24, 3) := by decide +kernel
theorem dd_78_41 : decode (mB 78) 41 = .ok (.iinc 1 1, 3) := by decide +kernel
theorem dd_78_44 : decode (mB 78) 44 = .ok (.goto (-42), 3) := by decide +kernel
theorem dd_78_47 : decode (mB 78) 47 = .ok (.return_, 1) := by decide +kernel
theorem dd_79_0 : decode (mB 79) 0 = .ok (.iconst 0, 1) := by decide +kernel
theorem dd_79_1 : decode (mB 79) 1 = .ok (.istore_n 1, 1) := by decide +kernel
theorem dd_79_2 : decode (mB 79) 2 = .ok (.iconst 0, 1) := by decide +kernel
theorem dd_79_3 : decode (mB 79) 3 = .ok (.istore_n 2, 1) := by decide +kernel
theorem dd_79_4 : decode (mB 79) 4 = .ok (.iload_n 2, 1) := by decide +kernel
theorem dd_79_5 : decode (mB 79) 5 = .ok (.aload_n 0, 1) := by decide +kernel
theorem dd_79_6 : decode (mB 79) 6 = .ok (.getfield 56, 3) := by decide +kernel
theorem dd_79_9 : decode (mB 79) 9 = .ok (.if_icmp .ge 68, 3) := by decide +kernel
theorem dd_79_12 : decode (mB 79) 12 = .ok (.aload_n 0, 1) := by decide +kernel
theorem dd_79_13 : decode (mB 79) 13 = .ok (.getfield 53, 3) := by decide +kernel
theorem dd_79_16 : decode (mB 79) 16 = .ok (.iload_n 2, 1) := by decide +kernel
theorem dd_79_17 : decode (mB 79) 17 = .ok (.aaload, 1) := by decide +kernel
theorem dd_79_18 : decode (mB 79) 18 = .ok (.aload_n 0, 1) := by decide +kernel
theorem dd_79_19 : decode (mB 79) 19 = .ok (.aload_n 0, 1) := by decide +kernel
theorem dd_79_20 : decode (mB 79) 20 = .ok (.getfield 53, 3) := by decide +kernel
theorem dd_79_23 : decode (mB 79) 23 = .ok (.iload_n 2, 1) := by decide +kernel
theorem dd_79_24 : decode (mB 79) 24 = .ok (.aaload, 1) := by decide +kernel
theorem dd_79_25 : decode (mB 79) 25 = .ok (.getfield 75, 3) := by decide +kernel
theorem dd_79_28 : decode (mB 79) 28 = .ok (.iconst 1, 1) := by decide +kernel
theorem dd_79_29 : decode (mB 79) 29 = .ok (.if_icmp .ne 15, 3) := by decide +kernel
theorem dd_79_32 : decode (mB 79) 32 = .ok (.aload_n 0, 1) := by decide +kernel
theorem dd_79_33 : decode (mB 79) 33 = .ok (.getfield 53, 3) := by decide +kernel
theorem dd_79_36 : decode (mB 79) 36 = .ok (.iload_n 2, 1) := by decide +kernel
theorem dd_79_37 : decode (mB 79) 37 = .ok (.aaload, 1) := by decide +kernel
theorem dd_79_38 : decode (mB 79) 38 = .ok (.invokevirtual 243, 3) := by decide +kernel
theorem dd_79_41 : decode (mB 79) 41 = .ok (.goto 4, 3) := by decide +kernel
theorem dd_79_44 : decode (mB 79) 44 = .ok (.iconst 0, 1) := by decide +kernel
theorem dd_79_45 : decode (mB 79) 45 = .ok (.invokevirtual 246, 3) := by decide +kernel
theorem dd_79_48 : decode (mB 79) 48 = .ok (.putfield 250, 3) := by decide +kernel
theorem dd_79_51 : decode (mB 79) 51 = .ok (.iload_n 1, 1) := by decide +kernel
theorem dd_79_52 : decode (mB 79) 52 = .ok (.aload_n 0, 1) := by decide +kernel
theorem dd_79_53 : decode (mB 79) 53 = .ok (.getfield 53, 3) := by decide +kernel
theorem dd_79_56 : decode (mB 79) 56 = .ok (.iload_n 2, 1) := by decide +kernel
theorem dd_79_57 : decode (mB 79) 57 = .ok (.aaload, 1) := by decide +kernel
theorem dd_79_58 : decode (mB 79) 58 = .ok (.getfield 250, 3) := by decide +kernel
theorem dd_79_61 : decode (mB 79) 61 = .ok (.ifnull 7, 3) := by decide +kernel
theorem dd_79_64 : decode (mB 79) 64 = .ok (.iconst 1, 1) := by decide +kernel
theorem dd_79_65 : decode (mB 79) 65 = .ok (.goto 4, 3) := by decide +kernel
theorem dd_79_68 : decode (mB 79) 68 = .ok (.iconst 0, 1) := by decide +kernel
theorem dd_79_69 : decode (mB 79) 69 = .ok (.ior, 1) := by decide +kernel
theorem dd_79_70 : decode (mB 79) 70 = .ok (.istore_n 1, 1) := by decide +kernel
theorem dd_79_71 : decode (mB 79) 71 = .ok (.iinc 2 1, 3) := by decide +kernel
theorem dd_79_74 : decode (mB 79) 74 = .ok (.goto (-70), 3) := by decide +kernel
theorem dd_79_77 : decode (mB 79) 77 = .ok (.iload_n 1, 1) := by decide +kernel
theorem dd_79_78 : decode (mB 79) 78 = .ok (.ireturn, 1) := by decide +kernel
theorem dd_80_0 : decode (mB 80) 0 = .ok (.aload_n 0, 1) := by decide +kernel
theorem dd_80_1 : decode (mB 80) 1 = .ok (.getfield 54, 3) := by decide +kernel
theorem dd_80_4 : decode (mB 80) 4 = .ok (.aload_n 0, 1) := by decide +kernel
theorem dd_80_5 : decode (mB 80) 5 = .ok (.getfield 57, 3) := by decide +kernel
theorem dd_80_8 : decode (mB 80) 8 = .ok (.invokestatic 87, 3) := by decide +kernel
theorem dd_80_11 : decode (mB 80) 11 = .ok (.istore_n 1, 1) := by decide +kernel
theorem dd_80_12 : decode (mB 80) 12 = .ok (.iload_n 1, 1) := by decide +kernel
theorem dd_80_13 : decode (mB 80) 13 = .ok (.iconst (-1), 1) := by decide +kernel
theorem dd_80_14 : decode (mB 80) 14 = .ok (.if_icmp .ne 7, 3) := by decide +kernel
theorem dd_80_17 : decode (mB 80) 17 = .ok (.iconst 0, 1) := by decide +kernel
theorem dd_80_18 : decode (mB 80) 18 = .ok (.goto 6, 3) := by decide +kernel
theorem dd_80_21 : decode (mB 80) 21 = .ok (.iconst 1, 1) := by decide +kernel
theorem dd_80_22 : decode (mB 80) 22 = .ok (.iload_n 1, 1) := by decide +kernel
theorem dd_80_23 : decode (mB 80) 23 = .ok (.ishl, 1) := by decide +kernel
theorem dd_80_24 : decode (mB 80) 24 = .ok (.ireturn, 1) := by decide +kernel
theorem dd_81_0 : decode (mB 81) 0 = .ok (.iload_n 1, 1) := by decide +kernel
theorem dd_81_1 : decode (mB 81) 1 = .ok (.aload_n 0, 1) := by decide +kernel
theorem dd_81_2 : decode (mB 81) 2 = .ok (.getfield 40, 3) := by decide +kernel
theorem dd_81_5 : decode (mB 81) 5 = .ok (.iand, 1) := by decide +kernel
theorem dd_81_6 : decode (mB 81) 6 = .ok (.ifCond .ne 5, 3) := by decide +kernel
theorem dd_81_9 : decode (mB 81) 9 = .ok (.aconst_null, 1) := by decide +kernel
theorem dd_81_10 : decode (mB 81) 10 = .ok (.areturn, 1) := by decide +kernel
theorem dd_81_11 : decode (mB 81) 11 = .ok (.iconst 0, 1) := by decide +kernel
theorem dd_81_12 : decode (mB 81) 12 = .ok (.istore_n 2, 1) := by decide +kernel
theorem dd_81_13 : decode (mB 81) 13 = .ok (.iload_n 2, 1) := by decide +kernel
theorem dd_81_14 : decode (mB 81) 14 = .ok (.aload_n 0, 1) := by decide +kernel
theorem dd_81_15 : decode (mB 81) 15 = .ok (.getfield 56, 3) := by decide +kernel
theorem dd_81_18 : decode (mB 81) 18 = .ok (.if_icmp .ge 30, 3) := by decide +kernel
theorem dd_81_21 : decode (mB 81) 21 = .ok (.aload_n 0, 1) := by decide +kernel
theorem dd_81_22 : decode (mB 81) 22 = .ok (.getfield 53, 3) := by decide +kernel
