/-! what each byte says; written by wip/gen/gen28.py -/
theorem dd_81_25 : decode (mB 81) 25 = .ok (.iload_n 2, 1) := by decide +kernel
theorem dd_81_26 : decode (mB 81) 26 = .ok (.aaload, 1) := by decide +kernel
theorem dd_81_27 : decode (mB 81) 27 = .ok (.getfield 144, 3) := by decide +kernel
theorem dd_81_30 : decode (mB 81) 30 = .ok (.iload_n 1, 1) := by decide +kernel
theorem dd_81_31 : decode (mB 81) 31 = .ok (.iand, 1) := by decide +kernel
theorem dd_81_32 : decode (mB 81) 32 = .ok (.ifCond .eq 10, 3) := by decide +kernel
theorem dd_81_35 : decode (mB 81) 35 = .ok (.aload_n 0, 1) := by decide +kernel
theorem dd_81_36 : decode (mB 81) 36 = .ok (.getfield 53, 3) := by decide +kernel
theorem dd_81_39 : decode (mB 81) 39 = .ok (.iload_n 2, 1) := by decide +kernel
theorem dd_81_40 : decode (mB 81) 40 = .ok (.aaload, 1) := by decide +kernel
theorem dd_81_41 : decode (mB 81) 41 = .ok (.areturn, 1) := by decide +kernel
theorem dd_81_42 : decode (mB 81) 42 = .ok (.iinc 2 1, 3) := by decide +kernel
theorem dd_81_45 : decode (mB 81) 45 = .ok (.goto (-32), 3) := by decide +kernel
theorem dd_81_48 : decode (mB 81) 48 = .ok (.aconst_null, 1) := by decide +kernel
theorem dd_81_49 : decode (mB 81) 49 = .ok (.areturn, 1) := by decide +kernel
theorem dd_82_0 : decode (mB 82) 0 = .ok (.aload_n 0, 1) := by decide +kernel
theorem dd_82_1 : decode (mB 82) 1 = .ok (.getfield 56, 3) := by decide +kernel
theorem dd_82_4 : decode (mB 82) 4 = .ok (.iconst 1, 1) := by decide +kernel
theorem dd_82_5 : decode (mB 82) 5 = .ok (.isub, 1) := by decide +kernel
theorem dd_82_6 : decode (mB 82) 6 = .ok (.istore_n 1, 1) := by decide +kernel
theorem dd_82_7 : decode (mB 82) 7 = .ok (.iload_n 1, 1) := by decide +kernel
theorem dd_82_8 : decode (mB 82) 8 = .ok (.ifCond .lt 29, 3) := by decide +kernel
theorem dd_82_11 : decode (mB 82) 11 = .ok (.aload_n 0, 1) := by decide +kernel
theorem dd_82_12 : decode (mB 82) 12 = .ok (.aload_n 0, 1) := by decide +kernel
theorem dd_82_13 : decode (mB 82) 13 = .ok (.getfield 53, 3) := by decide +kernel
theorem dd_82_16 : decode (mB 82) 16 = .ok (.iload_n 1, 1) := by decide +kernel
theorem dd_82_17 : decode (mB 82) 17 = .ok (.aaload, 1) := by decide +kernel
theorem dd_82_18 : decode (mB 82) 18 = .ok (.invokevirtual 254, 3) := by decide +kernel
theorem dd_82_21 : decode (mB 82) 21 = .ok (.ifCond .eq 10, 3) := by decide +kernel
theorem dd_82_24 : decode (mB 82) 24 = .ok (.aload_n 0, 1) := by decide +kernel
theorem dd_82_25 : decode (mB 82) 25 = .ok (.getfield 53, 3) := by decide +kernel
theorem dd_82_28 : decode (mB 82) 28 = .ok (.iload_n 1, 1) := by decide +kernel
theorem dd_82_29 : decode (mB 82) 29 = .ok (.aaload, 1) := by decide +kernel
theorem dd_82_30 : decode (mB 82) 30 = .ok (.areturn, 1) := by decide +kernel
theorem dd_82_31 : decode (mB 82) 31 = .ok (.iinc 1 (-1), 3) := by decide +kernel
theorem dd_82_34 : decode (mB 82) 34 = .ok (.goto (-27), 3) := by decide +kernel
theorem dd_82_37 : decode (mB 82) 37 = .ok (.aconst_null, 1) := by decide +kernel
theorem dd_82_38 : decode (mB 82) 38 = .ok (.areturn, 1) := by decide +kernel
theorem dd_83_0 : decode (mB 83) 0 = .ok (.aload_n 1, 1) := by decide +kernel
theorem dd_83_1 : decode (mB 83) 1 = .ok (.getfield 250, 3) := by decide +kernel
theorem dd_83_4 : decode (mB 83) 4 = .ok (.astore_n 2, 1) := by decide +kernel
theorem dd_83_5 : decode (mB 83) 5 = .ok (.iconst 0, 1) := by decide +kernel
theorem dd_83_6 : decode (mB 83) 6 = .ok (.istore_n 3, 1) := by decide +kernel
theorem dd_83_7 : decode (mB 83) 7 = .ok (.iload_n 3, 1) := by decide +kernel
theorem dd_83_8 : decode (mB 83) 8 = .ok (.bipush 40, 2) := by decide +kernel
theorem dd_83_10 : decode (mB 83) 10 = .ok (.if_icmp .ge 25, 3) := by decide +kernel
theorem dd_83_13 : decode (mB 83) 13 = .ok (.aload_n 2, 1) := by decide +kernel
theorem dd_83_14 : decode (mB 83) 14 = .ok (.ifnull 21, 3) := by decide +kernel
theorem dd_83_17 : decode (mB 83) 17 = .ok (.aload_n 2, 1) := by decide +kernel
theorem dd_83_18 : decode (mB 83) 18 = .ok (.aload_n 1, 1) := by decide +kernel
theorem dd_83_19 : decode (mB 83) 19 = .ok (.if_acmp .ne 5, 3) := by decide +kernel
theorem dd_83_22 : decode (mB 83) 22 = .ok (.iconst 1, 1) := by decide +kernel
theorem dd_83_23 : decode (mB 83) 23 = .ok (.ireturn, 1) := by decide +kernel
theorem dd_83_24 : decode (mB 83) 24 = .ok (.aload_n 2, 1) := by decide +kernel
theorem dd_83_25 : decode (mB 83) 25 = .ok (.getfield 250, 3) := by decide +kernel
theorem dd_83_28 : decode (mB 83) 28 = .ok (.astore_n 2, 1) := by decide +kernel
theorem dd_83_29 : decode (mB 83) 29 = .ok (.iinc 3 1, 3) := by decide +kernel
theorem dd_83_32 : decode (mB 83) 32 = .ok (.goto (-25), 3) := by decide +kernel
theorem dd_83_35 : decode (mB 83) 35 = .ok (.iconst 0, 1) := by decide +kernel
theorem dd_83_36 : decode (mB 83) 36 = .ok (.ireturn, 1) := by decide +kernel
theorem dd_84_0 : decode (mB 84) 0 = .ok (.aload_n 0, 1) := by decide +kernel
theorem dd_84_1 : decode (mB 84) 1 = .ok (.getfield 71, 3) := by decide +kernel
theorem dd_84_4 : decode (mB 84) 4 = .ok (.iconst 0, 1) := by decide +kernel
theorem dd_84_5 : decode (mB 84) 5 = .ok (.aload_n 0, 1) := by decide +kernel
theorem dd_84_6 : decode (mB 84) 6 = .ok (.getfield 50, 3) := by decide +kernel
theorem dd_84_9 : decode (mB 84) 9 = .ok (.iconst 0, 1) := by decide +kernel
theorem dd_84_10 : decode (mB 84) 10 = .ok (.bipush 8, 2) := by decide +kernel
theorem dd_84_12 : decode (mB 84) 12 = .ok (.invokestatic 258, 3) := by decide +kernel
theorem dd_84_15 : decode (mB 84) 15 = .ok (.iconst 0, 1) := by decide +kernel
theorem dd_84_16 : decode (mB 84) 16 = .ok (.istore_n 1, 1) := by decide +kernel
theorem dd_84_17 : decode (mB 84) 17 = .ok (.iconst 0, 1) := by decide +kernel
theorem dd_84_18 : decode (mB 84) 18 = .ok (.istore_n 2, 1) := by decide +kernel
theorem dd_84_19 : decode (mB 84) 19 = .ok (.iload_n 2, 1) := by decide +kernel
theorem dd_84_20 : decode (mB 84) 20 = .ok (.aload_n 0, 1) := by decide +kernel
theorem dd_84_21 : decode (mB 84) 21 = .ok (.getfield 56, 3) := by decide +kernel
theorem dd_84_24 : decode (mB 84) 24 = .ok (.if_icmp .ge 83, 3) := by decide +kernel
theorem dd_84_27 : decode (mB 84) 27 = .ok (.aload_n 0, 1) := by decide +kernel
theorem dd_84_28 : decode (mB 84) 28 = .ok (.getfield 53, 3) := by decide +kernel
theorem dd_84_31 : decode (mB 84) 31 = .ok (.iload_n 2, 1) := by decide +kernel
theorem dd_84_32 : decode (mB 84) 32 = .ok (.aaload, 1) := by decide +kernel
theorem dd_84_33 : decode (mB 84) 33 = .ok (.astore_n 3, 1) := by decide +kernel
theorem dd_84_34 : decode (mB 84) 34 = .ok (.aload_n 0, 1) := by decide +kernel
theorem dd_84_35 : decode (mB 84) 35 = .ok (.getfield 50, 3) := by decide +kernel
theorem dd_84_38 : decode (mB 84) 38 = .ok (.aload_n 3, 1) := by decide +kernel
theorem dd_84_39 : decode (mB 84) 39 = .ok (.getfield 134, 3) := by decide +kernel
theorem dd_84_42 : decode (mB 84) 42 = .ok (.iaload, 1) := by decide +kernel
theorem dd_84_43 : decode (mB 84) 43 = .ok (.ifCond .gt 6, 3) := by decide +kernel
theorem dd_84_46 : decode (mB 84) 46 = .ok (.goto 55, 3) := by decide +kernel
theorem dd_84_49 : decode (mB 84) 49 = .ok (.aload_n 3, 1) := by decide +kernel
theorem dd_84_50 : decode (mB 84) 50 = .ok (.getfield 75, 3) := by decide +kernel
theorem dd_84_53 : decode (mB 84) 53 = .ok (.iconst 1, 1) := by decide +kernel
theorem dd_84_54 : decode (mB 84) 54 = .ok (.if_icmp .ne 11, 3) := by decide +kernel
theorem dd_84_57 : decode (mB 84) 57 = .ok (.aload_n 0, 1) := by decide +kernel
theorem dd_84_58 : decode (mB 84) 58 = .ok (.aload_n 3, 1) := by decide +kernel
theorem dd_84_59 : decode (mB 84) 59 = .ok (.invokevirtual 264, 3) := by decide +kernel
theorem dd_84_62 : decode (mB 84) 62 = .ok (.goto 8, 3) := by decide +kernel
theorem dd_84_65 : decode (mB 84) 65 = .ok (.aload_n 0, 1) := by decide +kernel
theorem dd_84_66 : decode (mB 84) 66 = .ok (.aload_n 3, 1) := by decide +kernel
theorem dd_84_67 : decode (mB 84) 67 = .ok (.invokevirtual 267, 3) := by decide +kernel
theorem dd_84_70 : decode (mB 84) 70 = .ok (.istore 4, 2) := by decide +kernel
theorem dd_84_72 : decode (mB 84) 72 = .ok (.iload 4, 2) := by decide +kernel
theorem dd_84_74 : decode (mB 84) 74 = .ok (.ifCond .eq 16, 3) := by decide +kernel
theorem dd_84_77 : decode (mB 84) 77 = .ok (.aload_n 0, 1) := by decide +kernel
theorem dd_84_78 : decode (mB 84) 78 = .ok (.getfield 50, 3) := by decide +kernel
theorem dd_84_81 : decode (mB 84) 81 = .ok (.aload_n 3, 1) := by decide +kernel
theorem dd_84_82 : decode (mB 84) 82 = .ok (.getfield 134, 3) := by decide +kernel
theorem dd_84_85 : decode (mB 84) 85 = .ok (.dup2, 1) := by decide +kernel
theorem dd_84_86 : decode (mB 84) 86 = .ok (.iaload, 1) := by decide +kernel
theorem dd_84_87 : decode (mB 84) 87 = .ok (.iconst 1, 1) := by decide +kernel
theorem dd_84_88 : decode (mB 84) 88 = .ok (.isub, 1) := by decide +kernel
theorem dd_84_89 : decode (mB 84) 89 = .ok (.iastore, 1) := by decide +kernel
theorem dd_84_90 : decode (mB 84) 90 = .ok (.aload_n 3, 1) := by decide +kernel
theorem dd_84_91 : decode (mB 84) 91 = .ok (.getfield 75, 3) := by decide +kernel
theorem dd_84_94 : decode (mB 84) 94 = .ok (.iconst 2, 1) := by decide +kernel
theorem dd_84_95 : decode (mB 84) 95 = .ok (.if_icmp .ne 6, 3) := by decide +kernel
theorem dd_84_98 : decode (mB 84) 98 = .ok (.iinc 1 1, 3) := by decide +kernel
theorem dd_84_101 : decode (mB 84) 101 = .ok (.iinc 2 1, 3) := by decide +kernel
theorem dd_84_104 : decode (mB 84) 104 = .ok (.goto (-85), 3) := by decide +kernel
theorem dd_84_107 : decode (mB 84) 107 = .ok (.iload_n 1, 1) := by decide +kernel
theorem dd_84_108 : decode (mB 84) 108 = .ok (.ireturn, 1) := by decide +kernel
theorem dd_85_0 : decode (mB 85) 0 = .ok (.aload_n 1, 1) := by decide +kernel
theorem dd_85_1 : decode (mB 85) 1 = .ok (.invokevirtual 243, 3) := by decide +kernel
theorem dd_85_4 : decode (mB 85) 4 = .ok (.aload_n 0, 1) := by decide +kernel
theorem dd_85_5 : decode (mB 85) 5 = .ok (.getfield 37, 3) := by decide +kernel
theorem dd_85_8 : decode (mB 85) 8 = .ok (.iand, 1) := by decide +kernel
theorem dd_85_9 : decode (mB 85) 9 = .ok (.aload_n 0, 1) := by decide +kernel
theorem dd_85_10 : decode (mB 85) 10 = .ok (.getfield 40, 3) := by decide +kernel
theorem dd_85_13 : decode (mB 85) 13 = .ok (.iconst (-1), 1) := by decide +kernel
theorem dd_85_14 : decode (mB 85) 14 = .ok (.ixor, 1) := by decide +kernel
theorem dd_85_15 : decode (mB 85) 15 = .ok (.iand, 1) := by decide +kernel
theorem dd_85_16 : decode (mB 85) 16 = .ok (.ifCond .eq 10, 3) := by decide +kernel
theorem dd_85_19 : decode (mB 85) 19 = .ok (.aload_n 0, 1) := by decide +kernel
theorem dd_85_20 : decode (mB 85) 20 = .ok (.aload_n 1, 1) := by decide +kernel
theorem dd_85_21 : decode (mB 85) 21 = .ok (.invokevirtual 273, 3) := by decide +kernel
theorem dd_85_24 : decode (mB 85) 24 = .ok (.iconst 1, 1) := by decide +kernel
theorem dd_85_25 : decode (mB 85) 25 = .ok (.ireturn, 1) := by decide +kernel
theorem dd_85_26 : decode (mB 85) 26 = .ok (.aload_n 0, 1) := by decide +kernel
theorem dd_85_27 : decode (mB 85) 27 = .ok (.getfield 21, 3) := by decide +kernel
theorem dd_85_30 : decode (mB 85) 30 = .ok (.aload_n 1, 1) := by decide +kernel
theorem dd_85_31 : decode (mB 85) 31 = .ok (.getfield 276, 3) := by decide +kernel
theorem dd_85_34 : decode (mB 85) 34 = .ok (.isub, 1) := by decide +kernel
theorem dd_85_35 : decode (mB 85) 35 = .ok (.aload_n 0, 1) := by decide +kernel
theorem dd_85_36 : decode (mB 85) 36 = .ok (.getfield 67, 3) := by decide +kernel
theorem dd_85_39 : decode (mB 85) 39 = .ok (.getfield 270, 3) := by decide +kernel
theorem dd_85_42 : decode (mB 85) 42 = .ok (.if_icmp .lt 8, 3) := by decide +kernel
theorem dd_85_45 : decode (mB 85) 45 = .ok (.aload_n 0, 1) := by decide +kernel
theorem dd_85_46 : decode (mB 85) 46 = .ok (.aload_n 1, 1) := by decide +kernel
theorem dd_85_47 : decode (mB 85) 47 = .ok (.invokevirtual 157, 3) := by decide +kernel
theorem dd_85_50 : decode (mB 85) 50 = .ok (.iconst 0, 1) := by decide +kernel
theorem dd_85_51 : decode (mB 85) 51 = .ok (.ireturn, 1) := by decide +kernel
theorem dd_86_0 : decode (mB 86) 0 = .ok (.aload_n 1, 1) := by decide +kernel
theorem dd_86_1 : decode (mB 86) 1 = .ok (.getfield 98, 3) := by decide +kernel
theorem dd_86_4 : decode (mB 86) 4 = .ok (.invokestatic 279, 3) := by decide +kernel
theorem dd_86_7 : decode (mB 86) 7 = .ok (.istore_n 2, 1) := by decide +kernel
theorem dd_86_8 : decode (mB 86) 8 = .ok (.aload_n 0, 1) := by decide +kernel
theorem dd_86_9 : decode (mB 86) 9 = .ok (.getfield 37, 3) := by decide +kernel
theorem dd_86_12 : decode (mB 86) 12 = .ok (.aload_n 0, 1) := by decide +kernel
theorem dd_86_13 : decode (mB 86) 13 = .ok (.getfield 40, 3) := by decide +kernel
theorem dd_86_16 : decode (mB 86) 16 = .ok (.iconst (-1), 1) := by decide +kernel
theorem dd_86_17 : decode (mB 86) 17 = .ok (.ixor, 1) := by decide +kernel
theorem dd_86_18 : decode (mB 86) 18 = .ok (.iand, 1) := by decide +kernel
theorem dd_86_19 : decode (mB 86) 19 = .ok (.istore_n 3, 1) := by decide +kernel
theorem dd_86_20 : decode (mB 86) 20 = .ok (.aload_n 1, 1) := by decide +kernel
theorem dd_86_21 : decode (mB 86) 21 = .ok (.getfield 213, 3) := by decide +kernel
theorem dd_86_24 : decode (mB 86) 24 = .ok (.iload_n 2, 1) := by decide +kernel
theorem dd_86_25 : decode (mB 86) 25 = .ok (.if_icmp .ge 56, 3) := by decide +kernel
theorem dd_86_28 : decode (mB 86) 28 = .ok (.iload_n 3, 1) := by decide +kernel
theorem dd_86_29 : decode (mB 86) 29 = .ok (.aload_n 1, 1) := by decide +kernel
theorem dd_86_30 : decode (mB 86) 30 = .ok (.getfield 98, 3) := by decide +kernel
theorem dd_86_33 : decode (mB 86) 33 = .ok (.aload_n 1, 1) := by decide +kernel
theorem dd_86_34 : decode (mB 86) 34 = .ok (.getfield 213, 3) := by decide +kernel
theorem dd_86_37 : decode (mB 86) 37 = .ok (.invokestatic 282, 3) := by decide +kernel
theorem dd_86_40 : decode (mB 86) 40 = .ok (.ishr, 1) := by decide +kernel
theorem dd_86_41 : decode (mB 86) 41 = .ok (.iconst 1, 1) := by decide +kernel
theorem dd_86_42 : decode (mB 86) 42 = .ok (.iand, 1) := by decide +kernel
theorem dd_86_43 : decode (mB 86) 43 = .ok (.ifCond .eq 38, 3) := by decide +kernel
theorem dd_86_46 : decode (mB 86) 46 = .ok (.aload_n 1, 1) := by decide +kernel
theorem dd_86_47 : decode (mB 86) 47 = .ok (.dup, 1) := by decide +kernel
theorem dd_86_48 : decode (mB 86) 48 = .ok (.getfield 144, 3) := by decide +kernel
theorem dd_86_51 : decode (mB 86) 51 = .ok (.iconst 1, 1) := by decide +kernel
theorem dd_86_52 : decode (mB 86) 52 = .ok (.aload_n 1, 1) := by decide +kernel
theorem dd_86_53 : decode (mB 86) 53 = .ok (.getfield 98, 3) := by decide +kernel
theorem dd_86_56 : decode (mB 86) 56 = .ok (.aload_n 1, 1) := by decide +kernel
theorem dd_86_57 : decode (mB 86) 57 = .ok (.getfield 213, 3) := by decide +kernel
theorem dd_86_60 : decode (mB 86) 60 = .ok (.invokestatic 282, 3) := by decide +kernel
theorem dd_86_63 : decode (mB 86) 63 = .ok (.ishl, 1) := by decide +kernel
theorem dd_86_64 : decode (mB 86) 64 = .ok (.ior, 1) := by decide +kernel
theorem dd_86_65 : decode (mB 86) 65 = .ok (.putfield 144, 3) := by decide +kernel
theorem dd_86_68 : decode (mB 86) 68 = .ok (.aload_n 1, 1) := by decide +kernel
theorem dd_86_69 : decode (mB 86) 69 = .ok (.dup, 1) := by decide +kernel
theorem dd_86_70 : decode (mB 86) 70 = .ok (.getfield 213, 3) := by decide +kernel
theorem dd_86_73 : decode (mB 86) 73 = .ok (.iconst 1, 1) := by decide +kernel
theorem dd_86_74 : decode (mB 86) 74 = .ok (.iadd, 1) := by decide +kernel
theorem dd_86_75 : decode (mB 86) 75 = .ok (.putfield 213, 3) := by decide +kernel
theorem dd_86_78 : decode (mB 86) 78 = .ok (.goto (-58), 3) := by decide +kernel
theorem dd_86_81 : decode (mB 86) 81 = .ok (.aload_n 0, 1) := by decide +kernel
theorem dd_86_82 : decode (mB 86) 82 = .ok (.dup, 1) := by decide +kernel
theorem dd_86_83 : decode (mB 86) 83 = .ok (.getfield 40, 3) := by decide +kernel
theorem dd_86_86 : decode (mB 86) 86 = .ok (.aload_n 1, 1) := by decide +kernel
theorem dd_86_87 : decode (mB 86) 87 = .ok (.getfield 144, 3) := by decide +kernel
theorem dd_86_90 : decode (mB 86) 90 = .ok (.ior, 1) := by decide +kernel
theorem dd_86_91 : decode (mB 86) 91 = .ok (.putfield 40, 3) := by decide +kernel
theorem dd_86_94 : decode (mB 86) 94 = .ok (.aload_n 1, 1) := by decide +kernel
theorem dd_86_95 : decode (mB 86) 95 = .ok (.aload_n 0, 1) := by decide +kernel
theorem dd_86_96 : decode (mB 86) 96 = .ok (.getfield 21, 3) := by decide +kernel
theorem dd_86_99 : decode (mB 86) 99 = .ok (.putfield 276, 3) := by decide +kernel
theorem dd_86_102 : decode (mB 86) 102 = .ok (.aload_n 1, 1) := by decide +kernel
theorem dd_86_103 : decode (mB 86) 103 = .ok (.iconst 1, 1) := by decide +kernel
theorem dd_86_104 : decode (mB 86) 104 = .ok (.putfield 75, 3) := by decide +kernel
theorem dd_86_107 : decode (mB 86) 107 = .ok (.aload_n 1, 1) := by decide +kernel
theorem dd_86_108 : decode (mB 86) 108 = .ok (.getfield 213, 3) := by decide +kernel
theorem dd_86_111 : decode (mB 86) 111 = .ok (.iload_n 2, 1) := by decide +kernel
theorem dd_86_112 : decode (mB 86) 112 = .ok (.if_icmp .ne 16, 3) := by decide +kernel
theorem dd_86_115 : decode (mB 86) 115 = .ok (.aload_n 1, 1) := by decide +kernel
theorem dd_86_116 : decode (mB 86) 116 = .ok (.iconst 2, 1) := by decide +kernel
theorem dd_86_117 : decode (mB 86) 117 = .ok (.putfield 75, 3) := by decide +kernel
theorem dd_86_120 : decode (mB 86) 120 = .ok (.aload_n 1, 1) := by decide +kernel
theorem dd_86_121 : decode (mB 86) 121 = .ok (.aload_n 0, 1) := by decide +kernel
theorem dd_86_122 : decode (mB 86) 122 = .ok (.getfield 21, 3) := by decide +kernel
theorem dd_86_125 : decode (mB 86) 125 = .ok (.putfield 85, 3) := by decide +kernel
theorem dd_86_128 : decode (mB 86) 128 = .ok (.return_, 1) := by decide +kernel
theorem dd_87_0 : decode (mB 87) 0 = .ok (.iload_n 0, 1) := by decide +kernel
theorem dd_87_1 : decode (mB 87) 1 = .ok (.bipush 25, 2) := by decide +kernel
theorem dd_87_3 : decode (mB 87) 3 = .ok (.iushr, 1) := by decide +kernel
theorem dd_87_4 : decode (mB 87) 4 = .ok (.ireturn, 1) := by decide +kernel
theorem dd_88_0 : decode (mB 88) 0 = .ok (.aload_n 0, 1) := by decide +kernel
theorem dd_88_1 : decode (mB 88) 1 = .ok (.getfield 37, 3) := by decide +kernel
theorem dd_88_4 : decode (mB 88) 4 = .ok (.aload_n 0, 1) := by decide +kernel
theorem dd_88_5 : decode (mB 88) 5 = .ok (.getfield 40, 3) := by decide +kernel
theorem dd_88_8 : decode (mB 88) 8 = .ok (.iconst (-1), 1) := by decide +kernel
theorem dd_88_9 : decode (mB 88) 9 = .ok (.ixor, 1) := by decide +kernel
theorem dd_88_10 : decode (mB 88) 10 = .ok (.iand, 1) := by decide +kernel
theorem dd_88_11 : decode (mB 88) 11 = .ok (.istore_n 2, 1) := by decide +kernel
theorem dd_88_12 : decode (mB 88) 12 = .ok (.aload_n 0, 1) := by decide +kernel
theorem dd_88_13 : decode (mB 88) 13 = .ok (.getfield 59, 3) := by decide +kernel
theorem dd_88_16 : decode (mB 88) 16 = .ok (.aload_n 1, 1) := by decide +kernel
theorem dd_88_17 : decode (mB 88) 17 = .ok (.getfield 134, 3) := by decide +kernel
theorem dd_88_20 : decode (mB 88) 20 = .ok (.aload_n 1, 1) := by decide +kernel
theorem dd_88_21 : decode (mB 88) 21 = .ok (.getfield 137, 3) := by decide +kernel
theorem dd_88_24 : decode (mB 88) 24 = .ok (.aload_n 0, 1) := by decide +kernel
theorem dd_88_25 : decode (mB 88) 25 = .ok (.getfield 67, 3) := by decide +kernel
theorem dd_88_28 : decode (mB 88) 28 = .ok (.getfield 216, 3) := by decide +kernel
theorem dd_88_31 : decode (mB 88) 31 = .ok (.iload_n 2, 1) := by decide +kernel
theorem dd_88_32 : decode (mB 88) 32 = .ok (.iload_n 2, 1) := by decide +kernel
theorem dd_88_33 : decode (mB 88) 33 = .ok (.invokevirtual 219, 3) := by decide +kernel
theorem dd_88_36 : decode (mB 88) 36 = .ok (.istore_n 3, 1) := by decide +kernel
theorem dd_88_37 : decode (mB 88) 37 = .ok (.iload_n 3, 1) := by decide +kernel
theorem dd_88_38 : decode (mB 88) 38 = .ok (.ifCond .ne 41, 3) := by decide +kernel
theorem dd_88_41 : decode (mB 88) 41 = .ok (.aload_n 0, 1) := by decide +kernel
theorem dd_88_42 : decode (mB 88) 42 = .ok (.getfield 67, 3) := by decide +kernel
theorem dd_88_45 : decode (mB 88) 45 = .ok (.getfield 270, 3) := by decide +kernel
theorem dd_88_48 : decode (mB 88) 48 = .ok (.ifCond .le 31, 3) := by decide +kernel
theorem dd_88_51 : decode (mB 88) 51 = .ok (.aload_n 0, 1) := by decide +kernel
theorem dd_88_52 : decode (mB 88) 52 = .ok (.getfield 59, 3) := by decide +kernel
theorem dd_88_55 : decode (mB 88) 55 = .ok (.aload_n 1, 1) := by decide +kernel
theorem dd_88_56 : decode (mB 88) 56 = .ok (.getfield 134, 3) := by decide +kernel
theorem dd_88_59 : decode (mB 88) 59 = .ok (.aload_n 1, 1) := by decide +kernel
theorem dd_88_60 : decode (mB 88) 60 = .ok (.getfield 137, 3) := by decide +kernel
theorem dd_88_63 : decode (mB 88) 63 = .ok (.aload_n 0, 1) := by decide +kernel
theorem dd_88_64 : decode (mB 88) 64 = .ok (.getfield 67, 3) := by decide +kernel
theorem dd_88_67 : decode (mB 88) 67 = .ok (.getfield 216, 3) := by decide +kernel
theorem dd_88_70 : decode (mB 88) 70 = .ok (.aload_n 0, 1) := by decide +kernel
theorem dd_88_71 : decode (mB 88) 71 = .ok (.getfield 37, 3) := by decide +kernel
theorem dd_88_74 : decode (mB 88) 74 = .ok (.iload_n 2, 1) := by decide +kernel
theorem dd_88_75 : decode (mB 88) 75 = .ok (.invokevirtual 219, 3) := by decide +kernel
theorem dd_88_78 : decode (mB 88) 78 = .ok (.istore_n 3, 1) := by decide +kernel
theorem dd_88_79 : decode (mB 88) 79 = .ok (.iload_n 3, 1) := by decide +kernel
theorem dd_88_80 : decode (mB 88) 80 = .ok (.ifCond .ne 5, 3) := by decide +kernel
theorem dd_88_83 : decode (mB 88) 83 = .ok (.iconst 0, 1) := by decide +kernel
theorem dd_88_84 : decode (mB 88) 84 = .ok (.ireturn, 1) := by decide +kernel
theorem dd_88_85 : decode (mB 88) 85 = .ok (.aload_n 1, 1) := by decide +kernel
theorem dd_88_86 : decode (mB 88) 86 = .ok (.iload_n 3, 1) := by decide +kernel
theorem dd_88_87 : decode (mB 88) 87 = .ok (.putfield 98, 3) := by decide +kernel
theorem dd_88_90 : decode (mB 88) 90 = .ok (.aload_n 0, 1) := by decide +kernel
theorem dd_88_91 : decode (mB 88) 91 = .ok (.aload_n 1, 1) := by decide +kernel
theorem dd_88_92 : decode (mB 88) 92 = .ok (.invokevirtual 273, 3) := by decide +kernel
theorem dd_88_95 : decode (mB 88) 95 = .ok (.iconst 1, 1) := by decide +kernel
theorem dd_88_96 : decode (mB 88) 96 = .ok (.ireturn, 1) := by decide +kernel
theorem dd_89_0 : decode (mB 89) 0 = .ok (.iconst 0, 1) := by decide +kernel
theorem dd_89_1 : decode (mB 89) 1 = .ok (.istore_n 1, 1) := by decide +kernel
theorem dd_89_2 : decode (mB 89) 2 = .ok (.iconst 0, 1) := by decide +kernel
theorem dd_89_3 : decode (mB 89) 3 = .ok (.istore_n 2, 1) := by decide +kernel
theorem dd_89_4 : decode (mB 89) 4 = .ok (.iload_n 2, 1) := by decide +kernel
theorem dd_89_5 : decode (mB 89) 5 = .ok (.aload_n 0, 1) := by decide +kernel
theorem dd_89_6 : decode (mB 89) 6 = .ok (.getfield 56, 3) := by decide +kernel
theorem dd_89_9 : decode (mB 89) 9 = .ok (.if_icmp .ge 51, 3) := by decide +kernel
theorem dd_89_12 : decode (mB 89) 12 = .ok (.aload_n 0, 1) := by decide +kernel
theorem dd_89_13 : decode (mB 89) 13 = .ok (.getfield 53, 3) := by decide +kernel
theorem dd_89_16 : decode (mB 89) 16 = .ok (.iload_n 2, 1) := by decide +kernel
theorem dd_89_17 : decode (mB 89) 17 = .ok (.aaload, 1) := by decide +kernel
theorem dd_89_18 : decode (mB 89) 18 = .ok (.invokevirtual 140, 3) := by decide +kernel
theorem dd_89_21 : decode (mB 89) 21 = .ok (.ifCond .eq 33, 3) := by decide +kernel
theorem dd_89_24 : decode (mB 89) 24 = .ok (.aload_n 0, 1) := by decide +kernel
theorem dd_89_25 : decode (mB 89) 25 = .ok (.getfield 53, 3) := by decide +kernel
theorem dd_89_28 : decode (mB 89) 28 = .ok (.iload_n 2, 1) := by decide +kernel
theorem dd_89_29 : decode (mB 89) 29 = .ok (.aaload, 1) := by decide +kernel
theorem dd_89_30 : decode (mB 89) 30 = .ok (.dup, 1) := by decide +kernel
theorem dd_89_31 : decode (mB 89) 31 = .ok (.getfield 78, 3) := by decide +kernel
theorem dd_89_34 : decode (mB 89) 34 = .ok (.iconst 1, 1) := by decide +kernel
theorem dd_89_35 : decode (mB 89) 35 = .ok (.iadd, 1) := by decide +kernel
theorem dd_89_36 : decode (mB 89) 36 = .ok (.putfield 78, 3) := by decide +kernel
theorem dd_89_39 : decode (mB 89) 39 = .ok (.iload_n 1, 1) := by decide +kernel
theorem dd_89_40 : decode (mB 89) 40 = .ok (.aload_n 0, 1) := by decide +kernel
theorem dd_89_41 : decode (mB 89) 41 = .ok (.getfield 53, 3) := by decide +kernel
theorem dd_89_44 : decode (mB 89) 44 = .ok (.iload_n 2, 1) := by decide +kernel
theorem dd_89_45 : decode (mB 89) 45 = .ok (.aaload, 1) := by decide +kernel
theorem dd_89_46 : decode (mB 89) 46 = .ok (.getfield 223, 3) := by decide +kernel
theorem dd_89_49 : decode (mB 89) 49 = .ok (.invokestatic 285, 3) := by decide +kernel
theorem dd_89_52 : decode (mB 89) 52 = .ok (.ior, 1) := by decide +kernel
theorem dd_89_53 : decode (mB 89) 53 = .ok (.istore_n 1, 1) := by decide +kernel
theorem dd_89_54 : decode (mB 89) 54 = .ok (.iinc 2 1, 3) := by decide +kernel
theorem dd_89_57 : decode (mB 89) 57 = .ok (.goto (-53), 3) := by decide +kernel
theorem dd_89_60 : decode (mB 89) 60 = .ok (.iconst 0, 1) := by decide +kernel
theorem dd_89_61 : decode (mB 89) 61 = .ok (.istore_n 2, 1) := by decide +kernel
theorem dd_89_62 : decode (mB 89) 62 = .ok (.iconst 0, 1) := by decide +kernel
theorem dd_89_63 : decode (mB 89) 63 = .ok (.istore_n 3, 1) := by decide +kernel
theorem dd_89_64 : decode (mB 89) 64 = .ok (.iload_n 3, 1) := by decide +kernel
theorem dd_89_65 : decode (mB 89) 65 = .ok (.aload_n 0, 1) := by decide +kernel
theorem dd_89_66 : decode (mB 89) 66 = .ok (.getfield 17, 3) := by decide +kernel
theorem dd_89_69 : decode (mB 89) 69 = .ok (.if_icmp .ge 34, 3) := by decide +kernel
theorem dd_89_72 : decode (mB 89) 72 = .ok (.aload_n 0, 1) := by decide +kernel
theorem dd_89_73 : decode (mB 89) 73 = .ok (.getfield 11, 3) := by decide +kernel
theorem dd_89_76 : decode (mB 89) 76 = .ok (.iload_n 3, 1) := by decide +kernel
theorem dd_89_77 : decode (mB 89) 77 = .ok (.aaload, 1) := by decide +kernel
theorem dd_89_78 : decode (mB 89) 78 = .ok (.getfield 75, 3) := by decide +kernel
theorem dd_89_81 : decode (mB 89) 81 = .ok (.iconst 2, 1) := by decide +kernel
theorem dd_89_82 : decode (mB 89) 82 = .ok (.if_icmp .ne 15, 3) := by decide +kernel
theorem dd_89_85 : decode (mB 89) 85 = .ok (.iload_n 2, 1) := by decide +kernel
theorem dd_89_86 : decode (mB 89) 86 = .ok (.aload_n 0, 1) := by decide +kernel
theorem dd_89_87 : decode (mB 89) 87 = .ok (.getfield 11, 3) := by decide +kernel
theorem dd_89_90 : decode (mB 89) 90 = .ok (.iload_n 3, 1) := by decide +kernel
theorem dd_89_91 : decode (mB 89) 91 = .ok (.aaload, 1) := by decide +kernel
theorem dd_89_92 : decode (mB 89) 92 = .ok (.getfield 144, 3) := by decide +kernel
theorem dd_89_95 : decode (mB 89) 95 = .ok (.ior, 1) := by decide +kernel
theorem dd_89_96 : decode (mB 89) 96 = .ok (.istore_n 2, 1) := by decide +kernel
theorem dd_89_97 : decode (mB 89) 97 = .ok (.iinc 3 1, 3) := by decide +kernel
theorem dd_89_100 : decode (mB 89) 100 = .ok (.goto (-36), 3) := by decide +kernel
theorem dd_89_103 : decode (mB 89) 103 = .ok (.iload_n 1, 1) := by decide +kernel
theorem dd_89_104 : decode (mB 89) 104 = .ok (.aload_n 0, 1) := by decide +kernel
theorem dd_89_105 : decode (mB 89) 105 = .ok (.getfield 37, 3) := by decide +kernel
theorem dd_89_108 : decode (mB 89) 108 = .ok (.iand, 1) := by decide +kernel
theorem dd_89_109 : decode (mB 89) 109 = .ok (.aload_n 0, 1) := by decide +kernel
theorem dd_89_110 : decode (mB 89) 110 = .ok (.getfield 40, 3) := by decide +kernel
theorem dd_89_113 : decode (mB 89) 113 = .ok (.iconst (-1), 1) := by decide +kernel
theorem dd_89_114 : decode (mB 89) 114 = .ok (.ixor, 1) := by decide +kernel
theorem dd_89_115 : decode (mB 89) 115 = .ok (.iand, 1) := by decide +kernel
theorem dd_89_116 : decode (mB 89) 116 = .ok (.istore_n 3, 1) := by decide +kernel
theorem dd_89_117 : decode (mB 89) 117 = .ok (.iconst 0, 1) := by decide +kernel
theorem dd_89_118 : decode (mB 89) 118 = .ok (.istore 4, 2) := by decide +kernel
theorem dd_89_120 : decode (mB 89) 120 = .ok (.iload 4, 2) := by decide +kernel
theorem dd_89_122 : decode (mB 89) 122 = .ok (.bipush 20, 2) := by decide +kernel
theorem dd_89_124 : decode (mB 89) 124 = .ok (.if_icmp .ge 41, 3) := by decide +kernel
theorem dd_89_127 : decode (mB 89) 127 = .ok (.aload_n 0, 1) := by decide +kernel
theorem dd_89_128 : decode (mB 89) 128 = .ok (.getfield 27, 3) := by decide +kernel
theorem dd_89_131 : decode (mB 89) 131 = .ok (.iload 4, 2) := by decide +kernel
theorem dd_89_133 : decode (mB 89) 133 = .ok (.dup2, 1) := by decide +kernel
theorem dd_89_134 : decode (mB 89) 134 = .ok (.iaload, 1) := by decide +kernel
theorem dd_89_135 : decode (mB 89) 135 = .ok (.iload_n 3, 1) := by decide +kernel
theorem dd_89_136 : decode (mB 89) 136 = .ok (.iload 4, 2) := by decide +kernel
theorem dd_89_138 : decode (mB 89) 138 = .ok (.ishr, 1) := by decide +kernel
theorem dd_89_139 : decode (mB 89) 139 = .ok (.iconst 1, 1) := by decide +kernel
theorem dd_89_140 : decode (mB 89) 140 = .ok (.iand, 1) := by decide +kernel
theorem dd_89_141 : decode (mB 89) 141 = .ok (.iadd, 1) := by decide +kernel
theorem dd_89_142 : decode (mB 89) 142 = .ok (.iastore, 1) := by decide +kernel
theorem dd_89_143 : decode (mB 89) 143 = .ok (.aload_n 0, 1) := by decide +kernel
theorem dd_89_144 : decode (mB 89) 144 = .ok (.getfield 31, 3) := by decide +kernel
theorem dd_89_147 : decode (mB 89) 147 = .ok (.iload 4, 2) := by decide +kernel
theorem dd_89_149 : decode (mB 89) 149 = .ok (.dup2, 1) := by decide +kernel
theorem dd_89_150 : decode (mB 89) 150 = .ok (.iaload, 1) := by decide +kernel
theorem dd_89_151 : decode (mB 89) 151 = .ok (.iload_n 2, 1) := by decide +kernel
theorem dd_89_152 : decode (mB 89) 152 = .ok (.iload 4, 2) := by decide +kernel
theorem dd_89_154 : decode (mB 89) 154 = .ok (.ishr, 1) := by decide +kernel
theorem dd_89_155 : decode (mB 89) 155 = .ok (.iconst 1, 1) := by decide +kernel
theorem dd_89_156 : decode (mB 89) 156 = .ok (.iand, 1) := by decide +kernel
theorem dd_89_157 : decode (mB 89) 157 = .ok (.iadd, 1) := by decide +kernel
theorem dd_89_158 : decode (mB 89) 158 = .ok (.iastore, 1) := by decide +kernel
theorem dd_89_159 : decode (mB 89) 159 = .ok (.iinc 4 1, 3) := by decide +kernel
theorem dd_89_162 : decode (mB 89) 162 = .ok (.goto (-42), 3) := by decide +kernel
theorem dd_89_165 : decode (mB 89) 165 = .ok (.return_, 1) := by decide +kernel
theorem dd_90_0 : decode (mB 90) 0 = .ok (.iload_n 1, 1) := by decide +kernel
theorem dd_90_1 : decode (mB 90) 1 = .ok (.tableswitch 70 0 2 #[27, 35, 43], 27) := by decide +kernel
theorem dd_90_28 : decode (mB 90) 28 = .ok (.aload_n 0, 1) := by decide +kernel
theorem dd_90_29 : decode (mB 90) 29 = .ok (.getfield 55, 3) := by decide +kernel
theorem dd_90_32 : decode (mB 90) 32 = .ok (.invokevirtual 270, 3) := by decide +kernel
theorem dd_90_35 : decode (mB 90) 35 = .ok (.ireturn, 1) := by decide +kernel
theorem dd_90_36 : decode (mB 90) 36 = .ok (.aload_n 0, 1) := by decide +kernel
theorem dd_90_37 : decode (mB 90) 37 = .ok (.getfield 55, 3) := by decide +kernel
theorem dd_90_40 : decode (mB 90) 40 = .ok (.invokevirtual 273, 3) := by decide +kernel
theorem dd_90_43 : decode (mB 90) 43 = .ok (.ireturn, 1) := by decide +kernel
theorem dd_90_44 : decode (mB 90) 44 = .ok (.aload_n 0, 1) := by decide +kernel
theorem dd_90_45 : decode (mB 90) 45 = .ok (.getfield 55, 3) := by decide +kernel
theorem dd_90_48 : decode (mB 90) 48 = .ok (.iconst 2, 1) := by decide +kernel
theorem dd_90_49 : decode (mB 90) 49 = .ok (.invokevirtual 166, 3) := by decide +kernel
theorem dd_90_52 : decode (mB 90) 52 = .ok (.aload_n 0, 1) := by decide +kernel
theorem dd_90_53 : decode (mB 90) 53 = .ok (.getfield 55, 3) := by decide +kernel
theorem dd_90_56 : decode (mB 90) 56 = .ok (.iconst 3, 1) := by decide +kernel
theorem dd_90_57 : decode (mB 90) 57 = .ok (.invokevirtual 166, 3) := by decide +kernel
theorem dd_90_60 : decode (mB 90) 60 = .ok (.iadd, 1) := by decide +kernel
theorem dd_90_61 : decode (mB 90) 61 = .ok (.aload_n 0, 1) := by decide +kernel
theorem dd_90_62 : decode (mB 90) 62 = .ok (.getfield 55, 3) := by decide +kernel
theorem dd_90_65 : decode (mB 90) 65 = .ok (.iconst 4, 1) := by decide +kernel
theorem dd_90_66 : decode (mB 90) 66 = .ok (.invokevirtual 166, 3) := by decide +kernel
theorem dd_90_69 : decode (mB 90) 69 = .ok (.iadd, 1) := by decide +kernel
theorem dd_90_70 : decode (mB 90) 70 = .ok (.ireturn, 1) := by decide +kernel
theorem dd_90_71 : decode (mB 90) 71 = .ok (.ldc 92, 2) := by decide +kernel
theorem dd_90_73 : decode (mB 90) 73 = .ok (.ireturn, 1) := by decide +kernel
theorem dd_91_0 : decode (mB 91) 0 = .ok (.iconst 0, 1) := by decide +kernel
theorem dd_91_1 : decode (mB 91) 1 = .ok (.istore_n 1, 1) := by decide +kernel
theorem dd_91_2 : decode (mB 91) 2 = .ok (.iconst 0, 1) := by decide +kernel
theorem dd_91_3 : decode (mB 91) 3 = .ok (.istore_n 2, 1) := by decide +kernel
theorem dd_91_4 : decode (mB 91) 4 = .ok (.iload_n 2, 1) := by decide +kernel
theorem dd_91_5 : decode (mB 91) 5 = .ok (.aload_n 0, 1) := by decide +kernel
theorem dd_91_6 : decode (mB 91) 6 = .ok (.getfield 17, 3) := by decide +kernel
theorem dd_91_9 : decode (mB 91) 9 = .ok (.if_icmp .ge 21, 3) := by decide +kernel
theorem dd_91_12 : decode (mB 91) 12 = .ok (.iload_n 1, 1) := by decide +kernel
theorem dd_91_13 : decode (mB 91) 13 = .ok (.aload_n 0, 1) := by decide +kernel
theorem dd_91_14 : decode (mB 91) 14 = .ok (.getfield 11, 3) := by decide +kernel
theorem dd_91_17 : decode (mB 91) 17 = .ok (.iload_n 2, 1) := by decide +kernel
theorem dd_91_18 : decode (mB 91) 18 = .ok (.aaload, 1) := by decide +kernel
theorem dd_91_19 : decode (mB 91) 19 = .ok (.invokevirtual 125, 3) := by decide +kernel
theorem dd_91_22 : decode (mB 91) 22 = .ok (.iadd, 1) := by decide +kernel
theorem dd_91_23 : decode (mB 91) 23 = .ok (.istore_n 1, 1) := by decide +kernel
theorem dd_91_24 : decode (mB 91) 24 = .ok (.iinc 2 1, 3) := by decide +kernel
theorem dd_91_27 : decode (mB 91) 27 = .ok (.goto (-23), 3) := by decide +kernel
theorem dd_91_30 : decode (mB 91) 30 = .ok (.iload_n 1, 1) := by decide +kernel
theorem dd_91_31 : decode (mB 91) 31 = .ok (.ireturn, 1) := by decide +kernel
theorem dd_92_0 : decode (mB 92) 0 = .ok (.aload_n 0, 1) := by decide +kernel
theorem dd_92_1 : decode (mB 92) 1 = .ok (.invokevirtual 77, 3) := by decide +kernel
theorem dd_92_4 : decode (mB 92) 4 = .ok (.ifCond .eq 18, 3) := by decide +kernel
theorem dd_92_7 : decode (mB 92) 7 = .ok (.aload_n 0, 1) := by decide +kernel
theorem dd_92_8 : decode (mB 92) 8 = .ok (.getfield 30, 3) := by decide +kernel
theorem dd_92_11 : decode (mB 92) 11 = .ok (.aload_n 0, 1) := by decide +kernel
theorem dd_92_12 : decode (mB 92) 12 = .ok (.getfield 49, 3) := by decide +kernel
theorem dd_92_15 : decode (mB 92) 15 = .ok (.isub, 1) := by decide +kernel
theorem dd_92_16 : decode (mB 92) 16 = .ok (.invokestatic 81, 3) := by decide +kernel
theorem dd_92_19 : decode (mB 92) 19 = .ok (.goto 4, 3) := by decide +kernel
theorem dd_92_22 : decode (mB 92) 22 = .ok (.iconst 0, 1) := by decide +kernel
theorem dd_92_23 : decode (mB 92) 23 = .ok (.ireturn, 1) := by decide +kernel
theorem dd_93_0 : decode (mB 93) 0 = .ok (.aload_n 0, 1) := by decide +kernel
theorem dd_93_1 : decode (mB 93) 1 = .ok (.getfield 40, 3) := by decide +kernel
theorem dd_93_4 : decode (mB 93) 4 = .ok (.iconst 2, 1) := by decide +kernel
theorem dd_93_5 : decode (mB 93) 5 = .ok (.if_icmp .eq 19, 3) := by decide +kernel
theorem dd_93_8 : decode (mB 93) 8 = .ok (.aload_n 0, 1) := by decide +kernel
theorem dd_93_9 : decode (mB 93) 9 = .ok (.getfield 40, 3) := by decide +kernel
theorem dd_93_12 : decode (mB 93) 12 = .ok (.iconst 3, 1) := by decide +kernel
theorem dd_93_13 : decode (mB 93) 13 = .ok (.if_icmp .eq 11, 3) := by decide +kernel
theorem dd_93_16 : decode (mB 93) 16 = .ok (.aload_n 0, 1) := by decide +kernel
theorem dd_93_17 : decode (mB 93) 17 = .ok (.getfield 40, 3) := by decide +kernel
theorem dd_93_20 : decode (mB 93) 20 = .ok (.iconst 4, 1) := by decide +kernel
theorem dd_93_21 : decode (mB 93) 21 = .ok (.if_icmp .ne 7, 3) := by decide +kernel
theorem dd_93_24 : decode (mB 93) 24 = .ok (.iconst 1, 1) := by decide +kernel
theorem dd_93_25 : decode (mB 93) 25 = .ok (.goto 4, 3) := by decide +kernel
theorem dd_93_28 : decode (mB 93) 28 = .ok (.iconst 0, 1) := by decide +kernel
theorem dd_93_29 : decode (mB 93) 29 = .ok (.ireturn, 1) := by decide +kernel
theorem dd_94_0 : decode (mB 94) 0 = .ok (.iconst 0, 1) := by decide +kernel
theorem dd_94_1 : decode (mB 94) 1 = .ok (.istore_n 1, 1) := by decide +kernel
theorem dd_94_2 : decode (mB 94) 2 = .ok (.iconst 0, 1) := by decide +kernel
theorem dd_94_3 : decode (mB 94) 3 = .ok (.istore_n 2, 1) := by decide +kernel
theorem dd_94_4 : decode (mB 94) 4 = .ok (.iload_n 2, 1) := by decide +kernel
theorem dd_94_5 : decode (mB 94) 5 = .ok (.aload_n 0, 1) := by decide +kernel
theorem dd_94_6 : decode (mB 94) 6 = .ok (.getfield 17, 3) := by decide +kernel
theorem dd_94_9 : decode (mB 94) 9 = .ok (.if_icmp .ge 23, 3) := by decide +kernel
theorem dd_94_12 : decode (mB 94) 12 = .ok (.iload_n 1, 1) := by decide +kernel
theorem dd_94_13 : decode (mB 94) 13 = .ok (.aload_n 0, 1) := by decide +kernel
theorem dd_94_14 : decode (mB 94) 14 = .ok (.getfield 11, 3) := by decide +kernel
theorem dd_94_17 : decode (mB 94) 17 = .ok (.iload_n 2, 1) := by decide +kernel
theorem dd_94_18 : decode (mB 94) 18 = .ok (.aaload, 1) := by decide +kernel
theorem dd_94_19 : decode (mB 94) 19 = .ok (.invokevirtual 125, 3) := by decide +kernel
theorem dd_94_22 : decode (mB 94) 22 = .ok (.invokestatic 128, 3) := by decide +kernel
theorem dd_94_25 : decode (mB 94) 25 = .ok (.istore_n 1, 1) := by decide +kernel
theorem dd_94_26 : decode (mB 94) 26 = .ok (.iinc 2 1, 3) := by decide +kernel
theorem dd_94_29 : decode (mB 94) 29 = .ok (.goto (-25), 3) := by decide +kernel
theorem dd_94_32 : decode (mB 94) 32 = .ok (.iload_n 1, 1) := by decide +kernel
theorem dd_94_33 : decode (mB 94) 33 = .ok (.ireturn, 1) := by decide +kernel
theorem dd_95_0 : decode (mB 95) 0 = .ok (.iload_n 1, 1) := by decide +kernel
theorem dd_95_1 : decode (mB 95) 1 = .ok (.iconst 1, 1) := by decide +kernel
theorem dd_95_2 : decode (mB 95) 2 = .ok (.bipush 8, 2) := by decide +kernel
theorem dd_95_4 : decode (mB 95) 4 = .ok (.invokestatic 88, 3) := by decide +kernel
theorem dd_95_7 : decode (mB 95) 7 = .ok (.ifCond .ne 6, 3) := by decide +kernel
theorem dd_95_10 : decode (mB 95) 10 = .ok (.ldc 92, 2) := by decide +kernel
theorem dd_95_12 : decode (mB 95) 12 = .ok (.ireturn, 1) := by decide +kernel
theorem dd_95_13 : decode (mB 95) 13 = .ok (.aload_n 0, 1) := by decide +kernel
theorem dd_95_14 : decode (mB 95) 14 = .ok (.getfield 46, 3) := by decide +kernel
theorem dd_95_17 : decode (mB 95) 17 = .ok (.getfield 157, 3) := by decide +kernel
theorem dd_95_20 : decode (mB 95) 20 = .ok (.iload_n 1, 1) := by decide +kernel
theorem dd_95_21 : decode (mB 95) 21 = .ok (.iadd, 1) := by decide +kernel
theorem dd_95_22 : decode (mB 95) 22 = .ok (.sipush 160, 3) := by decide +kernel
theorem dd_95_25 : decode (mB 95) 25 = .ok (.if_icmp .le 6, 3) := by decide +kernel
theorem dd_95_28 : decode (mB 95) 28 = .ok (.ldc 96, 2) := by decide +kernel
theorem dd_95_30 : decode (mB 95) 30 = .ok (.ireturn, 1) := by decide +kernel
theorem dd_95_31 : decode (mB 95) 31 = .ok (.iload_n 1, 1) := by decide +kernel
theorem dd_95_32 : decode (mB 95) 32 = .ok (.iconst 1, 1) := by decide +kernel
theorem dd_95_33 : decode (mB 95) 33 = .ok (.isub, 1) := by decide +kernel
theorem dd_95_34 : decode (mB 95) 34 = .ok (.istore 4, 2) := by decide +kernel
theorem dd_95_36 : decode (mB 95) 36 = .ok (.iload 4, 2) := by decide +kernel
theorem dd_95_38 : decode (mB 95) 38 = .ok (.ifCond .lt 28, 3) := by decide +kernel
theorem dd_95_41 : decode (mB 95) 41 = .ok (.aload_n 0, 1) := by decide +kernel
theorem dd_95_42 : decode (mB 95) 42 = .ok (.getfield 46, 3) := by decide +kernel
theorem dd_95_45 : decode (mB 95) 45 = .ok (.lload_n 2, 1) := by decide +kernel
theorem dd_95_46 : decode (mB 95) 46 = .ok (.bipush 8, 2) := by decide +kernel
theorem dd_95_48 : decode (mB 95) 48 = .ok (.iload 4, 2) := by decide +kernel
theorem dd_95_50 : decode (mB 95) 50 = .ok (.imul, 1) := by decide +kernel
theorem dd_95_51 : decode (mB 95) 51 = .ok (.lushr, 1) := by decide +kernel
theorem dd_95_52 : decode (mB 95) 52 = .ok (.l2i, 1) := by decide +kernel
theorem dd_95_53 : decode (mB 95) 53 = .ok (.sipush 255, 3) := by decide +kernel
theorem dd_95_56 : decode (mB 95) 56 = .ok (.iand, 1) := by decide +kernel
theorem dd_95_57 : decode (mB 95) 57 = .ok (.invokevirtual 276, 3) := by decide +kernel
theorem dd_95_60 : decode (mB 95) 60 = .ok (.iinc 4 (-1), 3) := by decide +kernel
theorem dd_95_63 : decode (mB 95) 63 = .ok (.goto (-27), 3) := by decide +kernel
theorem dd_95_66 : decode (mB 95) 66 = .ok (.aload_n 0, 1) := by decide +kernel
theorem dd_95_67 : decode (mB 95) 67 = .ok (.getfield 46, 3) := by decide +kernel
theorem dd_95_70 : decode (mB 95) 70 = .ok (.getfield 157, 3) := by decide +kernel
theorem dd_95_73 : decode (mB 95) 73 = .ok (.ireturn, 1) := by decide +kernel
theorem dd_96_0 : decode (mB 96) 0 = .ok (.aload_n 0, 1) := by decide +kernel
theorem dd_96_1 : decode (mB 96) 1 = .ok (.getfield 15, 3) := by decide +kernel
theorem dd_96_4 : decode (mB 96) 4 = .ok (.sipush 160, 3) := by decide +kernel
theorem dd_96_7 : decode (mB 96) 7 = .ok (.if_icmp .ge 23, 3) := by decide +kernel
theorem dd_96_10 : decode (mB 96) 10 = .ok (.aload_n 0, 1) := by decide +kernel
theorem dd_96_11 : decode (mB 96) 11 = .ok (.getfield 9, 3) := by decide +kernel
theorem dd_96_14 : decode (mB 96) 14 = .ok (.aload_n 0, 1) := by decide +kernel
theorem dd_96_15 : decode (mB 96) 15 = .ok (.getfield 15, 3) := by decide +kernel
theorem dd_96_18 : decode (mB 96) 18 = .ok (.iload_n 1, 1) := by decide +kernel
theorem dd_96_19 : decode (mB 96) 19 = .ok (.iastore, 1) := by decide +kernel
theorem dd_96_20 : decode (mB 96) 20 = .ok (.aload_n 0, 1) := by decide +kernel
theorem dd_96_21 : decode (mB 96) 21 = .ok (.dup, 1) := by decide +kernel
theorem dd_96_22 : decode (mB 96) 22 = .ok (.getfield 15, 3) := by decide +kernel
theorem dd_96_25 : decode (mB 96) 25 = .ok (.iconst 1, 1) := by decide +kernel
theorem dd_96_26 : decode (mB 96) 26 = .ok (.iadd, 1) := by decide +kernel
theorem dd_96_27 : decode (mB 96) 27 = .ok (.putfield 15, 3) := by decide +kernel
theorem dd_96_30 : decode (mB 96) 30 = .ok (.return_, 1) := by decide +kernel
theorem dd_97_0 : decode (mB 97) 0 = .ok (.iload_n 1, 1) := by decide +kernel
theorem dd_97_1 : decode (mB 97) 1 = .ok (.iconst 0, 1) := by decide +kernel
theorem dd_97_2 : decode (mB 97) 2 = .ok (.sipush 479, 3) := by decide +kernel
theorem dd_97_5 : decode (mB 97) 5 = .ok (.invokestatic 88, 3) := by decide +kernel
theorem dd_97_8 : decode (mB 97) 8 = .ok (.ifCond .ne 6, 3) := by decide +kernel
theorem dd_97_11 : decode (mB 97) 11 = .ok (.ldc 92, 2) := by decide +kernel
theorem dd_97_13 : decode (mB 97) 13 = .ok (.ireturn, 1) := by decide +kernel
theorem dd_97_14 : decode (mB 97) 14 = .ok (.aload_n 0, 1) := by decide +kernel
theorem dd_97_15 : decode (mB 97) 15 = .ok (.getfield 30, 3) := by decide +kernel
theorem dd_97_18 : decode (mB 97) 18 = .ok (.getfield 150, 3) := by decide +kernel
theorem dd_97_21 : decode (mB 97) 21 = .ok (.bipush 6, 2) := by decide +kernel
theorem dd_97_23 : decode (mB 97) 23 = .ok (.if_icmp .lt 6, 3) := by decide +kernel
theorem dd_97_26 : decode (mB 97) 26 = .ok (.ldc 96, 2) := by decide +kernel
theorem dd_97_28 : decode (mB 97) 28 = .ok (.ireturn, 1) := by decide +kernel
theorem dd_97_29 : decode (mB 97) 29 = .ok (.aload_n 0, 1) := by decide +kernel
theorem dd_97_30 : decode (mB 97) 30 = .ok (.getfield 46, 3) := by decide +kernel
theorem dd_97_33 : decode (mB 97) 33 = .ok (.aload_n 0, 1) := by decide +kernel
theorem dd_97_34 : decode (mB 97) 34 = .ok (.getfield 30, 3) := by decide +kernel
theorem dd_97_37 : decode (mB 97) 37 = .ok (.invokevirtual 280, 3) := by decide +kernel
theorem dd_97_40 : decode (mB 97) 40 = .ok (.ifCond .ne 14, 3) := by decide +kernel
theorem dd_97_43 : decode (mB 97) 43 = .ok (.bipush (-10), 2) := by decide +kernel
theorem dd_97_45 : decode (mB 97) 45 = .ok (.aload_n 0, 1) := by decide +kernel
theorem dd_97_46 : decode (mB 97) 46 = .ok (.getfield 46, 3) := by decide +kernel
theorem dd_97_49 : decode (mB 97) 49 = .ok (.getfield 284, 3) := by decide +kernel
theorem dd_97_52 : decode (mB 97) 52 = .ok (.isub, 1) := by decide +kernel
theorem dd_97_53 : decode (mB 97) 53 = .ok (.ireturn, 1) := by decide +kernel
theorem dd_97_54 : decode (mB 97) 54 = .ok (.aload_n 0, 1) := by decide +kernel
theorem dd_97_55 : decode (mB 97) 55 = .ok (.invokevirtual 97, 3) := by decide +kernel
theorem dd_97_58 : decode (mB 97) 58 = .ok (.aload_n 0, 1) := by decide +kernel
theorem dd_97_59 : decode (mB 97) 59 = .ok (.getfield 30, 3) := by decide +kernel
theorem dd_97_62 : decode (mB 97) 62 = .ok (.getfield 287, 3) := by decide +kernel
theorem dd_97_65 : decode (mB 97) 65 = .ok (.aload_n 0, 1) := by decide +kernel
theorem dd_97_66 : decode (mB 97) 66 = .ok (.getfield 30, 3) := by decide +kernel
theorem dd_97_69 : decode (mB 97) 69 = .ok (.getfield 150, 3) := by decide +kernel
theorem dd_97_72 : decode (mB 97) 72 = .ok (.iload_n 1, 1) := by decide +kernel
theorem dd_97_73 : decode (mB 97) 73 = .ok (.iastore, 1) := by decide +kernel
theorem dd_97_74 : decode (mB 97) 74 = .ok (.aload_n 0, 1) := by decide +kernel
theorem dd_97_75 : decode (mB 97) 75 = .ok (.getfield 30, 3) := by decide +kernel
theorem dd_97_78 : decode (mB 97) 78 = .ok (.dup, 1) := by decide +kernel
theorem dd_97_79 : decode (mB 97) 79 = .ok (.getfield 150, 3) := by decide +kernel
theorem dd_97_82 : decode (mB 97) 82 = .ok (.iconst 1, 1) := by decide +kernel
theorem dd_97_83 : decode (mB 97) 83 = .ok (.iadd, 1) := by decide +kernel
theorem dd_97_84 : decode (mB 97) 84 = .ok (.putfield 150, 3) := by decide +kernel
theorem dd_97_87 : decode (mB 97) 87 = .ok (.aload_n 0, 1) := by decide +kernel
theorem dd_97_88 : decode (mB 97) 88 = .ok (.getfield 30, 3) := by decide +kernel
theorem dd_97_91 : decode (mB 97) 91 = .ok (.getfield 150, 3) := by decide +kernel
theorem dd_97_94 : decode (mB 97) 94 = .ok (.iconst 1, 1) := by decide +kernel
theorem dd_97_95 : decode (mB 97) 95 = .ok (.isub, 1) := by decide +kernel
theorem dd_97_96 : decode (mB 97) 96 = .ok (.ireturn, 1) := by decide +kernel
theorem dd_98_0 : decode (mB 98) 0 = .ok (.aload_n 0, 1) := by decide +kernel
theorem dd_98_1 : decode (mB 98) 1 = .ok (.iconst 0, 1) := by decide +kernel
theorem dd_98_2 : decode (mB 98) 2 = .ok (.putfield 19, 3) := by decide +kernel
theorem dd_98_5 : decode (mB 98) 5 = .ok (.aload_n 0, 1) := by decide +kernel
theorem dd_98_6 : decode (mB 98) 6 = .ok (.iconst (-1), 1) := by decide +kernel
theorem dd_98_7 : decode (mB 98) 7 = .ok (.putfield 22, 3) := by decide +kernel
theorem dd_98_10 : decode (mB 98) 10 = .ok (.aload_n 0, 1) := by decide +kernel
theorem dd_98_11 : decode (mB 98) 11 = .ok (.iconst 0, 1) := by decide +kernel
theorem dd_98_12 : decode (mB 98) 12 = .ok (.putfield 25, 3) := by decide +kernel
theorem dd_98_15 : decode (mB 98) 15 = .ok (.iconst 0, 1) := by decide +kernel
theorem dd_98_16 : decode (mB 98) 16 = .ok (.istore_n 2, 1) := by decide +kernel
theorem dd_98_17 : decode (mB 98) 17 = .ok (.iload_n 2, 1) := by decide +kernel
theorem dd_98_18 : decode (mB 98) 18 = .ok (.bipush 10, 2) := by decide +kernel
theorem dd_98_20 : decode (mB 98) 20 = .ok (.if_icmp .gt 29, 3) := by decide +kernel
theorem dd_98_23 : decode (mB 98) 23 = .ok (.aload_n 0, 1) := by decide +kernel
theorem dd_98_24 : decode (mB 98) 24 = .ok (.getfield 19, 3) := by decide +kernel
theorem dd_98_27 : decode (mB 98) 27 = .ok (.ifCond .ne 22, 3) := by decide +kernel
theorem dd_98_30 : decode (mB 98) 30 = .ok (.aload_n 0, 1) := by decide +kernel
theorem dd_98_31 : decode (mB 98) 31 = .ok (.invokevirtual 28, 3) := by decide +kernel
theorem dd_98_34 : decode (mB 98) 34 = .ok (.ifCond .ne 15, 3) := by decide +kernel
theorem dd_98_37 : decode (mB 98) 37 = .ok (.aload_n 0, 1) := by decide +kernel
theorem dd_98_38 : decode (mB 98) 38 = .ok (.aload_n 1, 1) := by decide +kernel
theorem dd_98_39 : decode (mB 98) 39 = .ok (.iload_n 2, 1) := by decide +kernel
theorem dd_98_40 : decode (mB 98) 40 = .ok (.invokevirtual 32, 3) := by decide +kernel
theorem dd_98_43 : decode (mB 98) 43 = .ok (.iinc 2 1, 3) := by decide +kernel
theorem dd_98_46 : decode (mB 98) 46 = .ok (.goto (-29), 3) := by decide +kernel
theorem dd_98_49 : decode (mB 98) 49 = .ok (.aload_n 0, 1) := by decide +kernel
theorem dd_98_50 : decode (mB 98) 50 = .ok (.iconst 0, 1) := by decide +kernel
theorem dd_98_51 : decode (mB 98) 51 = .ok (.putfield 15, 3) := by decide +kernel
theorem dd_98_54 : decode (mB 98) 54 = .ok (.aload_n 0, 1) := by decide +kernel
theorem dd_98_55 : decode (mB 98) 55 = .ok (.getfield 19, 3) := by decide +kernel
theorem dd_98_58 : decode (mB 98) 58 = .ok (.ifCond .ne 22, 3) := by decide +kernel
theorem dd_98_61 : decode (mB 98) 61 = .ok (.aload_n 1, 1) := by decide +kernel
theorem dd_98_62 : decode (mB 98) 62 = .ok (.getfield 36, 3) := by decide +kernel
theorem dd_98_65 : decode (mB 98) 65 = .ok (.bipush 6, 2) := by decide +kernel
theorem dd_98_67 : decode (mB 98) 67 = .ok (.if_icmp .ge 13, 3) := by decide +kernel
theorem dd_98_70 : decode (mB 98) 70 = .ok (.aload_n 1, 1) := by decide +kernel
theorem dd_98_71 : decode (mB 98) 71 = .ok (.getfield 41, 3) := by decide +kernel
theorem dd_98_74 : decode (mB 98) 74 = .ok (.aload_n 1, 1) := by decide +kernel
theorem dd_98_75 : decode (mB 98) 75 = .ok (.getfield 36, 3) := by decide +kernel
theorem dd_98_78 : decode (mB 98) 78 = .ok (.iload_n 2, 1) := by decide +kernel
theorem dd_98_79 : decode (mB 98) 79 = .ok (.iastore, 1) := by decide +kernel
theorem dd_98_80 : decode (mB 98) 80 = .ok (.aload_n 0, 1) := by decide +kernel
theorem dd_98_81 : decode (mB 98) 81 = .ok (.getfield 19, 3) := by decide +kernel
theorem dd_98_84 : decode (mB 98) 84 = .ok (.ifCond .ne 7, 3) := by decide +kernel
theorem dd_98_87 : decode (mB 98) 87 = .ok (.iconst 1, 1) := by decide +kernel
theorem dd_98_88 : decode (mB 98) 88 = .ok (.goto 4, 3) := by decide +kernel
theorem dd_98_91 : decode (mB 98) 91 = .ok (.iconst 0, 1) := by decide +kernel
theorem dd_98_92 : decode (mB 98) 92 = .ok (.ireturn, 1) := by decide +kernel
theorem dd_99_0 : decode (mB 99) 0 = .ok (.aload_n 0, 1) := by decide +kernel
theorem dd_99_1 : decode (mB 99) 1 = .ok (.invokevirtual 44, 3) := by decide +kernel
theorem dd_99_4 : decode (mB 99) 4 = .ok (.aload_n 0, 1) := by decide +kernel
theorem dd_99_5 : decode (mB 99) 5 = .ok (.getfield 25, 3) := by decide +kernel
theorem dd_99_8 : decode (mB 99) 8 = .ok (.aload_n 0, 1) := by decide +kernel
theorem dd_99_9 : decode (mB 99) 9 = .ok (.getfield 15, 3) := by decide +kernel
theorem dd_99_12 : decode (mB 99) 12 = .ok (.if_icmp .lt 7, 3) := by decide +kernel
theorem dd_99_15 : decode (mB 99) 15 = .ok (.iconst 1, 1) := by decide +kernel
theorem dd_99_16 : decode (mB 99) 16 = .ok (.goto 4, 3) := by decide +kernel
theorem dd_99_19 : decode (mB 99) 19 = .ok (.iconst 0, 1) := by decide +kernel
theorem dd_99_20 : decode (mB 99) 20 = .ok (.ireturn, 1) := by decide +kernel
theorem dd_100_0 : decode (mB 100) 0 = .ok (.aload_n 0, 1) := by decide +kernel
theorem dd_100_1 : decode (mB 100) 1 = .ok (.getfield 25, 3) := by decide +kernel
theorem dd_100_4 : decode (mB 100) 4 = .ok (.aload_n 0, 1) := by decide +kernel
theorem dd_100_5 : decode (mB 100) 5 = .ok (.getfield 15, 3) := by decide +kernel
theorem dd_100_8 : decode (mB 100) 8 = .ok (.if_icmp .ge 30, 3) := by decide +kernel
theorem dd_100_11 : decode (mB 100) 11 = .ok (.aload_n 0, 1) := by decide +kernel
theorem dd_100_12 : decode (mB 100) 12 = .ok (.getfield 9, 3) := by decide +kernel
theorem dd_100_15 : decode (mB 100) 15 = .ok (.aload_n 0, 1) := by decide +kernel
theorem dd_100_16 : decode (mB 100) 16 = .ok (.getfield 25, 3) := by decide +kernel
theorem dd_100_19 : decode (mB 100) 19 = .ok (.iaload, 1) := by decide +kernel
theorem dd_100_20 : decode (mB 100) 20 = .ok (.bipush 32, 2) := by decide +kernel
theorem dd_100_22 : decode (mB 100) 22 = .ok (.if_icmp .ne 16, 3) := by decide +kernel
theorem dd_100_25 : decode (mB 100) 25 = .ok (.aload_n 0, 1) := by decide +kernel
theorem dd_100_26 : decode (mB 100) 26 = .ok (.dup, 1) := by decide +kernel
theorem dd_100_27 : decode (mB 100) 27 = .ok (.getfield 25, 3) := by decide +kernel
theorem dd_100_30 : decode (mB 100) 30 = .ok (.iconst 1, 1) := by decide +kernel
theorem dd_100_31 : decode (mB 100) 31 = .ok (.iadd, 1) := by decide +kernel
theorem dd_100_32 : decode (mB 100) 32 = .ok (.putfield 25, 3) := by decide +kernel
theorem dd_100_35 : decode (mB 100) 35 = .ok (.goto (-35), 3) := by decide +kernel
theorem dd_100_38 : decode (mB 100) 38 = .ok (.return_, 1) := by decide +kernel
theorem dd_101_0 : decode (mB 101) 0 = .ok (.aload_n 0, 1) := by decide +kernel
theorem dd_101_1 : decode (mB 101) 1 = .ok (.invokevirtual 44, 3) := by decide +kernel
theorem dd_101_4 : decode (mB 101) 4 = .ok (.aload_n 0, 1) := by decide +kernel
theorem dd_101_5 : decode (mB 101) 5 = .ok (.getfield 25, 3) := by decide +kernel
theorem dd_101_8 : decode (mB 101) 8 = .ok (.istore_n 3, 1) := by decide +kernel
theorem dd_101_9 : decode (mB 101) 9 = .ok (.aload_n 0, 1) := by decide +kernel
theorem dd_101_10 : decode (mB 101) 10 = .ok (.ldc 47, 2) := by decide +kernel
theorem dd_101_12 : decode (mB 101) 12 = .ok (.invokevirtual 49, 3) := by decide +kernel
theorem dd_101_15 : decode (mB 101) 15 = .ok (.istore 4, 2) := by decide +kernel
theorem dd_101_17 : decode (mB 101) 17 = .ok (.iload 4, 2) := by decide +kernel
theorem dd_101_19 : decode (mB 101) 19 = .ok (.iconst (-1), 1) := by decide +kernel
theorem dd_101_20 : decode (mB 101) 20 = .ok (.if_icmp .ne 4, 3) := by decide +kernel
theorem dd_101_23 : decode (mB 101) 23 = .ok (.return_, 1) := by decide +kernel
theorem dd_101_24 : decode (mB 101) 24 = .ok (.iload_n 2, 1) := by decide +kernel
theorem dd_101_25 : decode (mB 101) 25 = .ok (.bipush 10, 2) := by decide +kernel
theorem dd_101_27 : decode (mB 101) 27 = .ok (.if_icmp .ge 12, 3) := by decide +kernel
theorem dd_101_30 : decode (mB 101) 30 = .ok (.aload_n 1, 1) := by decide +kernel
theorem dd_101_31 : decode (mB 101) 31 = .ok (.getfield 36, 3) := by decide +kernel
theorem dd_101_34 : decode (mB 101) 34 = .ok (.bipush 6, 2) := by decide +kernel
theorem dd_101_36 : decode (mB 101) 36 = .ok (.if_icmp .lt 10, 3) := by decide +kernel
theorem dd_101_39 : decode (mB 101) 39 = .ok (.aload_n 0, 1) := by decide +kernel
theorem dd_101_40 : decode (mB 101) 40 = .ok (.iconst 5, 1) := by decide +kernel
theorem dd_101_41 : decode (mB 101) 41 = .ok (.iload_n 3, 1) := by decide +kernel
theorem dd_101_42 : decode (mB 101) 42 = .ok (.invokevirtual 53, 3) := by decide +kernel
theorem dd_101_45 : decode (mB 101) 45 = .ok (.return_, 1) := by decide +kernel
theorem dd_101_46 : decode (mB 101) 46 = .ok (.aload_n 1, 1) := by decide +kernel
theorem dd_101_47 : decode (mB 101) 47 = .ok (.getfield 36, 3) := by decide +kernel
theorem dd_101_50 : decode (mB 101) 50 = .ok (.bipush 10, 2) := by decide +kernel
theorem dd_101_52 : decode (mB 101) 52 = .ok (.imul, 1) := by decide +kernel
theorem dd_101_53 : decode (mB 101) 53 = .ok (.iload_n 2, 1) := by decide +kernel
theorem dd_101_54 : decode (mB 101) 54 = .ok (.iadd, 1) := by decide +kernel
theorem dd_101_55 : decode (mB 101) 55 = .ok (.istore 5, 2) := by decide +kernel
theorem dd_101_57 : decode (mB 101) 57 = .ok (.aload_n 1, 1) := by decide +kernel
theorem dd_101_58 : decode (mB 101) 58 = .ok (.getfield 57, 3) := by decide +kernel
theorem dd_101_61 : decode (mB 101) 61 = .ok (.iload 5, 2) := by decide +kernel
theorem dd_101_63 : decode (mB 101) 63 = .ok (.iload 4, 2) := by decide +kernel
theorem dd_101_65 : decode (mB 101) 65 = .ok (.iastore, 1) := by decide +kernel
theorem dd_101_66 : decode (mB 101) 66 = .ok (.iload 4, 2) := by decide +kernel
theorem dd_101_68 : decode (mB 101) 68 = .ok (.ifCond .ne 13, 3) := by decide +kernel
theorem dd_101_71 : decode (mB 101) 71 = .ok (.aload_n 0, 1) := by decide +kernel
theorem dd_101_72 : decode (mB 101) 72 = .ok (.aload_n 1, 1) := by decide +kernel
theorem dd_101_73 : decode (mB 101) 73 = .ok (.iload 5, 2) := by decide +kernel
theorem dd_101_75 : decode (mB 101) 75 = .ok (.invokevirtual 60, 3) := by decide +kernel
theorem dd_101_78 : decode (mB 101) 78 = .ok (.goto 12, 3) := by decide +kernel
theorem dd_101_81 : decode (mB 101) 81 = .ok (.aload_n 0, 1) := by decide +kernel
theorem dd_101_82 : decode (mB 101) 82 = .ok (.aload_n 1, 1) := by decide +kernel
theorem dd_101_83 : decode (mB 101) 83 = .ok (.iload 5, 2) := by decide +kernel
theorem dd_101_85 : decode (mB 101) 85 = .ok (.iload 4, 2) := by decide +kernel
theorem dd_101_87 : decode (mB 101) 87 = .ok (.invokevirtual 63, 3) := by decide +kernel
theorem dd_101_90 : decode (mB 101) 90 = .ok (.aload_n 0, 1) := by decide +kernel
theorem dd_101_91 : decode (mB 101) 91 = .ok (.bipush 59, 2) := by decide +kernel
theorem dd_101_93 : decode (mB 101) 93 = .ok (.invokevirtual 67, 3) := by decide +kernel
theorem dd_101_96 : decode (mB 101) 96 = .ok (.return_, 1) := by decide +kernel
theorem dd_102_0 : decode (mB 102) 0 = .ok (.aload_n 0, 1) := by decide +kernel
theorem dd_102_1 : decode (mB 102) 1 = .ok (.invokevirtual 44, 3) := by decide +kernel
theorem dd_102_4 : decode (mB 102) 4 = .ok (.aload_n 0, 1) := by decide +kernel
theorem dd_102_5 : decode (mB 102) 5 = .ok (.getfield 25, 3) := by decide +kernel
theorem dd_102_8 : decode (mB 102) 8 = .ok (.istore_n 2, 1) := by decide +kernel
theorem dd_102_9 : decode (mB 102) 9 = .ok (.aload_n 0, 1) := by decide +kernel
theorem dd_102_10 : decode (mB 102) 10 = .ok (.getfield 25, 3) := by decide +kernel
theorem dd_102_13 : decode (mB 102) 13 = .ok (.aload_n 0, 1) := by decide +kernel
theorem dd_102_14 : decode (mB 102) 14 = .ok (.getfield 15, 3) := by decide +kernel
theorem dd_102_17 : decode (mB 102) 17 = .ok (.if_icmp .ge 35, 3) := by decide +kernel
theorem dd_102_20 : decode (mB 102) 20 = .ok (.aload_n 0, 1) := by decide +kernel
theorem dd_102_21 : decode (mB 102) 21 = .ok (.getfield 9, 3) := by decide +kernel
theorem dd_102_24 : decode (mB 102) 24 = .ok (.aload_n 0, 1) := by decide +kernel
theorem dd_102_25 : decode (mB 102) 25 = .ok (.getfield 25, 3) := by decide +kernel
theorem dd_102_28 : decode (mB 102) 28 = .ok (.iaload, 1) := by decide +kernel
theorem dd_102_29 : decode (mB 102) 29 = .ok (.bipush 97, 2) := by decide +kernel
theorem dd_102_31 : decode (mB 102) 31 = .ok (.bipush 122, 2) := by decide +kernel
theorem dd_102_33 : decode (mB 102) 33 = .ok (.invokestatic 98, 3) := by decide +kernel
theorem dd_102_36 : decode (mB 102) 36 = .ok (.ifCond .eq 16, 3) := by decide +kernel
theorem dd_102_39 : decode (mB 102) 39 = .ok (.aload_n 0, 1) := by decide +kernel
theorem dd_102_40 : decode (mB 102) 40 = .ok (.dup, 1) := by decide +kernel
theorem dd_102_41 : decode (mB 102) 41 = .ok (.getfield 25, 3) := by decide +kernel
theorem dd_102_44 : decode (mB 102) 44 = .ok (.iconst 1, 1) := by decide +kernel
theorem dd_102_45 : decode (mB 102) 45 = .ok (.iadd, 1) := by decide +kernel
theorem dd_102_46 : decode (mB 102) 46 = .ok (.putfield 25, 3) := by decide +kernel
theorem dd_102_49 : decode (mB 102) 49 = .ok (.goto (-40), 3) := by decide +kernel
theorem dd_102_52 : decode (mB 102) 52 = .ok (.aload_n 1, 1) := by decide +kernel
theorem dd_102_53 : decode (mB 102) 53 = .ok (.invokevirtual 102, 3) := by decide +kernel
theorem dd_102_56 : decode (mB 102) 56 = .ok (.bipush 6, 2) := by decide +kernel
theorem dd_102_58 : decode (mB 102) 58 = .ok (.idiv, 1) := by decide +kernel
theorem dd_102_59 : decode (mB 102) 59 = .ok (.istore_n 3, 1) := by decide +kernel
theorem dd_102_60 : decode (mB 102) 60 = .ok (.iconst 0, 1) := by decide +kernel
theorem dd_102_61 : decode (mB 102) 61 = .ok (.istore 4, 2) := by decide +kernel
theorem dd_102_63 : decode (mB 102) 63 = .ok (.iload 4, 2) := by decide +kernel
theorem dd_102_65 : decode (mB 102) 65 = .ok (.iload_n 3, 1) := by decide +kernel
theorem dd_102_66 : decode (mB 102) 66 = .ok (.if_icmp .ge 32, 3) := by decide +kernel
theorem dd_102_69 : decode (mB 102) 69 = .ok (.aload_n 0, 1) := by decide +kernel
theorem dd_102_70 : decode (mB 102) 70 = .ok (.iload_n 2, 1) := by decide +kernel
theorem dd_102_71 : decode (mB 102) 71 = .ok (.aload_n 0, 1) := by decide +kernel
theorem dd_102_72 : decode (mB 102) 72 = .ok (.getfield 25, 3) := by decide +kernel
theorem dd_102_75 : decode (mB 102) 75 = .ok (.iload_n 2, 1) := by decide +kernel
theorem dd_102_76 : decode (mB 102) 76 = .ok (.isub, 1) := by decide +kernel
theorem dd_102_77 : decode (mB 102) 77 = .ok (.aload_n 1, 1) := by decide +kernel
theorem dd_102_78 : decode (mB 102) 78 = .ok (.iload 4, 2) := by decide +kernel
theorem dd_102_80 : decode (mB 102) 80 = .ok (.bipush 6, 2) := by decide +kernel
theorem dd_102_82 : decode (mB 102) 82 = .ok (.imul, 1) := by decide +kernel
theorem dd_102_83 : decode (mB 102) 83 = .ok (.invokevirtual 107, 3) := by decide +kernel
theorem dd_102_86 : decode (mB 102) 86 = .ok (.ifCond .eq 6, 3) := by decide +kernel
theorem dd_102_89 : decode (mB 102) 89 = .ok (.iload 4, 2) := by decide +kernel
theorem dd_102_91 : decode (mB 102) 91 = .ok (.ireturn, 1) := by decide +kernel
theorem dd_102_92 : decode (mB 102) 92 = .ok (.iinc 4 1, 3) := by decide +kernel
theorem dd_102_95 : decode (mB 102) 95 = .ok (.goto (-32), 3) := by decide +kernel
theorem dd_102_98 : decode (mB 102) 98 = .ok (.aload_n 0, 1) := by decide +kernel
theorem dd_102_99 : decode (mB 102) 99 = .ok (.iconst 1, 1) := by decide +kernel
theorem dd_102_100 : decode (mB 102) 100 = .ok (.iload_n 2, 1) := by decide +kernel
theorem dd_102_101 : decode (mB 102) 101 = .ok (.invokevirtual 53, 3) := by decide +kernel
theorem dd_102_104 : decode (mB 102) 104 = .ok (.iconst (-1), 1) := by decide +kernel
theorem dd_102_105 : decode (mB 102) 105 = .ok (.ireturn, 1) := by decide +kernel
theorem dd_103_0 : decode (mB 103) 0 = .ok (.iload_n 2, 1) := by decide +kernel
theorem dd_103_1 : decode (mB 103) 1 = .ok (.bipush 6, 2) := by decide +kernel
theorem dd_103_3 : decode (mB 103) 3 = .ok (.if_icmp .le 5, 3) := by decide +kernel
theorem dd_103_6 : decode (mB 103) 6 = .ok (.iconst 0, 1) := by decide +kernel
theorem dd_103_7 : decode (mB 103) 7 = .ok (.ireturn, 1) := by decide +kernel
theorem dd_103_8 : decode (mB 103) 8 = .ok (.iconst 0, 1) := by decide +kernel
theorem dd_103_9 : decode (mB 103) 9 = .ok (.istore 5, 2) := by decide +kernel
theorem dd_103_11 : decode (mB 103) 11 = .ok (.iload 5, 2) := by decide +kernel
theorem dd_103_13 : decode (mB 103) 13 = .ok (.bipush 6, 2) := by decide +kernel
theorem dd_103_15 : decode (mB 103) 15 = .ok (.if_icmp .ge 69, 3) := by decide +kernel
theorem dd_103_18 : decode (mB 103) 18 = .ok (.iload 5, 2) := by decide +kernel
theorem dd_103_20 : decode (mB 103) 20 = .ok (.iload_n 2, 1) := by decide +kernel
theorem dd_103_21 : decode (mB 103) 21 = .ok (.if_icmp .ge 25, 3) := by decide +kernel
theorem dd_103_24 : decode (mB 103) 24 = .ok (.iload_n 1, 1) := by decide +kernel
theorem dd_103_25 : decode (mB 103) 25 = .ok (.iload 5, 2) := by decide +kernel
theorem dd_103_27 : decode (mB 103) 27 = .ok (.iadd, 1) := by decide +kernel
theorem dd_103_28 : decode (mB 103) 28 = .ok (.sipush 160, 3) := by decide +kernel
theorem dd_103_31 : decode (mB 103) 31 = .ok (.if_icmp .ge 15, 3) := by decide +kernel
theorem dd_103_34 : decode (mB 103) 34 = .ok (.aload_n 0, 1) := by decide +kernel
theorem dd_103_35 : decode (mB 103) 35 = .ok (.getfield 9, 3) := by decide +kernel
theorem dd_103_38 : decode (mB 103) 38 = .ok (.iload_n 1, 1) := by decide +kernel
theorem dd_103_39 : decode (mB 103) 39 = .ok (.iload 5, 2) := by decide +kernel
theorem dd_103_41 : decode (mB 103) 41 = .ok (.iadd, 1) := by decide +kernel
theorem dd_103_42 : decode (mB 103) 42 = .ok (.iaload, 1) := by decide +kernel
theorem dd_103_43 : decode (mB 103) 43 = .ok (.goto 5, 3) := by decide +kernel
theorem dd_103_46 : decode (mB 103) 46 = .ok (.bipush 32, 2) := by decide +kernel
theorem dd_103_48 : decode (mB 103) 48 = .ok (.istore 6, 2) := by decide +kernel
theorem dd_103_50 : decode (mB 103) 50 = .ok (.iload 4, 2) := by decide +kernel
theorem dd_103_52 : decode (mB 103) 52 = .ok (.iload 5, 2) := by decide +kernel
theorem dd_103_54 : decode (mB 103) 54 = .ok (.iadd, 1) := by decide +kernel
theorem dd_103_55 : decode (mB 103) 55 = .ok (.aload_n 3, 1) := by decide +kernel
theorem dd_103_56 : decode (mB 103) 56 = .ok (.invokevirtual 102, 3) := by decide +kernel
theorem dd_103_59 : decode (mB 103) 59 = .ok (.if_icmp .ge 17, 3) := by decide +kernel
theorem dd_103_62 : decode (mB 103) 62 = .ok (.aload_n 3, 1) := by decide +kernel
theorem dd_103_63 : decode (mB 103) 63 = .ok (.iload 4, 2) := by decide +kernel
theorem dd_103_65 : decode (mB 103) 65 = .ok (.iload 5, 2) := by decide +kernel
theorem dd_103_67 : decode (mB 103) 67 = .ok (.iadd, 1) := by decide +kernel
theorem dd_103_68 : decode (mB 103) 68 = .ok (.invokevirtual 111, 3) := by decide +kernel
theorem dd_103_71 : decode (mB 103) 71 = .ok (.iload 6, 2) := by decide +kernel
theorem dd_103_73 : decode (mB 103) 73 = .ok (.if_icmp .eq 5, 3) := by decide +kernel
theorem dd_103_76 : decode (mB 103) 76 = .ok (.iconst 0, 1) := by decide +kernel
theorem dd_103_77 : decode (mB 103) 77 = .ok (.ireturn, 1) := by decide +kernel
theorem dd_103_78 : decode (mB 103) 78 = .ok (.iinc 5 1, 3) := by decide +kernel
theorem dd_103_81 : decode (mB 103) 81 = .ok (.goto (-70), 3) := by decide +kernel
theorem dd_103_84 : decode (mB 103) 84 = .ok (.iconst 1, 1) := by decide +kernel
theorem dd_103_85 : decode (mB 103) 85 = .ok (.ireturn, 1) := by decide +kernel
theorem dd_104_0 : decode (mB 104) 0 = .ok (.aload_n 0, 1) := by decide +kernel
theorem dd_104_1 : decode (mB 104) 1 = .ok (.getfield 19, 3) := by decide +kernel
theorem dd_104_4 : decode (mB 104) 4 = .ok (.ifCond .ne 13, 3) := by decide +kernel
theorem dd_104_7 : decode (mB 104) 7 = .ok (.aload_n 0, 1) := by decide +kernel
theorem dd_104_8 : decode (mB 104) 8 = .ok (.iload_n 1, 1) := by decide +kernel
theorem dd_104_9 : decode (mB 104) 9 = .ok (.putfield 19, 3) := by decide +kernel
theorem dd_104_12 : decode (mB 104) 12 = .ok (.aload_n 0, 1) := by decide +kernel
theorem dd_104_13 : decode (mB 104) 13 = .ok (.iload_n 2, 1) := by decide +kernel
theorem dd_104_14 : decode (mB 104) 14 = .ok (.putfield 22, 3) := by decide +kernel
theorem dd_104_17 : decode (mB 104) 17 = .ok (.return_, 1) := by decide +kernel
theorem dd_105_0 : decode (mB 105) 0 = .ok (.iconst 0, 1) := by decide +kernel
theorem dd_105_1 : decode (mB 105) 1 = .ok (.istore_n 3, 1) := by decide +kernel
theorem dd_105_2 : decode (mB 105) 2 = .ok (.iconst 0, 1) := by decide +kernel
theorem dd_105_3 : decode (mB 105) 3 = .ok (.istore 4, 2) := by decide +kernel
theorem dd_105_5 : decode (mB 105) 5 = .ok (.iconst 0, 1) := by decide +kernel
theorem dd_105_6 : decode (mB 105) 6 = .ok (.istore 5, 2) := by decide +kernel
theorem dd_105_8 : decode (mB 105) 8 = .ok (.iconst 1, 1) := by decide +kernel
theorem dd_105_9 : decode (mB 105) 9 = .ok (.istore 6, 2) := by decide +kernel
theorem dd_105_11 : decode (mB 105) 11 = .ok (.iload 6, 2) := by decide +kernel
theorem dd_105_13 : decode (mB 105) 13 = .ok (.ifCond .eq 85, 3) := by decide +kernel
theorem dd_105_16 : decode (mB 105) 16 = .ok (.iload 5, 2) := by decide +kernel
theorem dd_105_18 : decode (mB 105) 18 = .ok (.bipush 6, 2) := by decide +kernel
theorem dd_105_20 : decode (mB 105) 20 = .ok (.if_icmp .ge 78, 3) := by decide +kernel
theorem dd_105_23 : decode (mB 105) 23 = .ok (.aload_n 0, 1) := by decide +kernel
theorem dd_105_24 : decode (mB 105) 24 = .ok (.invokevirtual 44, 3) := by decide +kernel
theorem dd_105_27 : decode (mB 105) 27 = .ok (.aload_n 0, 1) := by decide +kernel
theorem dd_105_28 : decode (mB 105) 28 = .ok (.getfield 25, 3) := by decide +kernel
theorem dd_105_31 : decode (mB 105) 31 = .ok (.istore 7, 2) := by decide +kernel
theorem dd_105_33 : decode (mB 105) 33 = .ok (.aload_n 0, 1) := by decide +kernel
theorem dd_105_34 : decode (mB 105) 34 = .ok (.ldc 71, 2) := by decide +kernel
theorem dd_105_36 : decode (mB 105) 36 = .ok (.invokevirtual 49, 3) := by decide +kernel
theorem dd_105_39 : decode (mB 105) 39 = .ok (.istore 8, 2) := by decide +kernel
theorem dd_105_41 : decode (mB 105) 41 = .ok (.iload 8, 2) := by decide +kernel
theorem dd_105_43 : decode (mB 105) 43 = .ok (.iconst (-1), 1) := by decide +kernel
theorem dd_105_44 : decode (mB 105) 44 = .ok (.if_icmp .ne 4, 3) := by decide +kernel
theorem dd_105_47 : decode (mB 105) 47 = .ok (.return_, 1) := by decide +kernel
theorem dd_105_48 : decode (mB 105) 48 = .ok (.iload_n 3, 1) := by decide +kernel
theorem dd_105_49 : decode (mB 105) 49 = .ok (.iload 8, 2) := by decide +kernel
theorem dd_105_51 : decode (mB 105) 51 = .ok (.ishr, 1) := by decide +kernel
theorem dd_105_52 : decode (mB 105) 52 = .ok (.iconst 1, 1) := by decide +kernel
theorem dd_105_53 : decode (mB 105) 53 = .ok (.iand, 1) := by decide +kernel
theorem dd_105_54 : decode (mB 105) 54 = .ok (.ifCond .eq 11, 3) := by decide +kernel
theorem dd_105_57 : decode (mB 105) 57 = .ok (.aload_n 0, 1) := by decide +kernel
theorem dd_105_58 : decode (mB 105) 58 = .ok (.iconst 4, 1) := by decide +kernel
theorem dd_105_59 : decode (mB 105) 59 = .ok (.iload 7, 2) := by decide +kernel
theorem dd_105_61 : decode (mB 105) 61 = .ok (.invokevirtual 53, 3) := by decide +kernel
theorem dd_105_64 : decode (mB 105) 64 = .ok (.return_, 1) := by decide +kernel
theorem dd_105_65 : decode (mB 105) 65 = .ok (.iload_n 3, 1) := by decide +kernel
theorem dd_105_66 : decode (mB 105) 66 = .ok (.iconst 1, 1) := by decide +kernel
theorem dd_105_67 : decode (mB 105) 67 = .ok (.iload 8, 2) := by decide +kernel
theorem dd_105_69 : decode (mB 105) 69 = .ok (.ishl, 1) := by decide +kernel
theorem dd_105_70 : decode (mB 105) 70 = .ok (.ior, 1) := by decide +kernel
theorem dd_105_71 : decode (mB 105) 71 = .ok (.istore_n 3, 1) := by decide +kernel
theorem dd_105_72 : decode (mB 105) 72 = .ok (.iload 4, 2) := by decide +kernel
theorem dd_105_74 : decode (mB 105) 74 = .ok (.iload 8, 2) := by decide +kernel
theorem dd_105_76 : decode (mB 105) 76 = .ok (.iconst 3, 1) := by decide +kernel
theorem dd_105_77 : decode (mB 105) 77 = .ok (.iload 5, 2) := by decide +kernel
theorem dd_105_79 : decode (mB 105) 79 = .ok (.imul, 1) := by decide +kernel
theorem dd_105_80 : decode (mB 105) 80 = .ok (.ishl, 1) := by decide +kernel
theorem dd_105_81 : decode (mB 105) 81 = .ok (.ior, 1) := by decide +kernel
theorem dd_105_82 : decode (mB 105) 82 = .ok (.istore 4, 2) := by decide +kernel
theorem dd_105_84 : decode (mB 105) 84 = .ok (.iinc 5 1, 3) := by decide +kernel
theorem dd_105_87 : decode (mB 105) 87 = .ok (.aload_n 0, 1) := by decide +kernel
theorem dd_105_88 : decode (mB 105) 88 = .ok (.bipush 44, 2) := by decide +kernel
theorem dd_105_90 : decode (mB 105) 90 = .ok (.invokevirtual 73, 3) := by decide +kernel
theorem dd_105_93 : decode (mB 105) 93 = .ok (.istore 6, 2) := by decide +kernel
theorem dd_105_95 : decode (mB 105) 95 = .ok (.goto (-84), 3) := by decide +kernel
theorem dd_105_98 : decode (mB 105) 98 = .ok (.aload_n 1, 1) := by decide +kernel
theorem dd_105_99 : decode (mB 105) 99 = .ok (.getfield 77, 3) := by decide +kernel
theorem dd_105_102 : decode (mB 105) 102 = .ok (.iload_n 2, 1) := by decide +kernel
theorem dd_105_103 : decode (mB 105) 103 = .ok (.iload 5, 2) := by decide +kernel
theorem dd_105_105 : decode (mB 105) 105 = .ok (.iastore, 1) := by decide +kernel
theorem dd_105_106 : decode (mB 105) 106 = .ok (.aload_n 1, 1) := by decide +kernel
theorem dd_105_107 : decode (mB 105) 107 = .ok (.getfield 80, 3) := by decide +kernel
theorem dd_105_110 : decode (mB 105) 110 = .ok (.iload_n 2, 1) := by decide +kernel
theorem dd_105_111 : decode (mB 105) 111 = .ok (.iload 4, 2) := by decide +kernel
theorem dd_105_113 : decode (mB 105) 113 = .ok (.iastore, 1) := by decide +kernel
theorem dd_105_114 : decode (mB 105) 114 = .ok (.return_, 1) := by decide +kernel
theorem dd_106_0 : decode (mB 106) 0 = .ok (.aload_n 0, 1) := by decide +kernel
theorem dd_106_1 : decode (mB 106) 1 = .ok (.invokevirtual 44, 3) := by decide +kernel
theorem dd_106_4 : decode (mB 106) 4 = .ok (.aload_n 0, 1) := by decide +kernel
theorem dd_106_5 : decode (mB 106) 5 = .ok (.getfield 25, 3) := by decide +kernel
theorem dd_106_8 : decode (mB 106) 8 = .ok (.aload_n 0, 1) := by decide +kernel
theorem dd_106_9 : decode (mB 106) 9 = .ok (.getfield 15, 3) := by decide +kernel
theorem dd_106_12 : decode (mB 106) 12 = .ok (.if_icmp .ge 20, 3) := by decide +kernel
theorem dd_106_15 : decode (mB 106) 15 = .ok (.aload_n 0, 1) := by decide +kernel
theorem dd_106_16 : decode (mB 106) 16 = .ok (.getfield 9, 3) := by decide +kernel
theorem dd_106_19 : decode (mB 106) 19 = .ok (.aload_n 0, 1) := by decide +kernel
theorem dd_106_20 : decode (mB 106) 20 = .ok (.getfield 25, 3) := by decide +kernel
theorem dd_106_23 : decode (mB 106) 23 = .ok (.iaload, 1) := by decide +kernel
theorem dd_106_24 : decode (mB 106) 24 = .ok (.iload_n 1, 1) := by decide +kernel
theorem dd_106_25 : decode (mB 106) 25 = .ok (.if_icmp .ne 7, 3) := by decide +kernel
theorem dd_106_28 : decode (mB 106) 28 = .ok (.iconst 1, 1) := by decide +kernel
theorem dd_106_29 : decode (mB 106) 29 = .ok (.goto 4, 3) := by decide +kernel
theorem dd_106_32 : decode (mB 106) 32 = .ok (.iconst 0, 1) := by decide +kernel
theorem dd_106_33 : decode (mB 106) 33 = .ok (.istore_n 2, 1) := by decide +kernel
theorem dd_106_34 : decode (mB 106) 34 = .ok (.iload_n 2, 1) := by decide +kernel
theorem dd_106_35 : decode (mB 106) 35 = .ok (.ifCond .eq 13, 3) := by decide +kernel
theorem dd_106_38 : decode (mB 106) 38 = .ok (.aload_n 0, 1) := by decide +kernel
theorem dd_106_39 : decode (mB 106) 39 = .ok (.dup, 1) := by decide +kernel
theorem dd_106_40 : decode (mB 106) 40 = .ok (.getfield 25, 3) := by decide +kernel
theorem dd_106_43 : decode (mB 106) 43 = .ok (.iconst 1, 1) := by decide +kernel
theorem dd_106_44 : decode (mB 106) 44 = .ok (.iadd, 1) := by decide +kernel
theorem dd_106_45 : decode (mB 106) 45 = .ok (.putfield 25, 3) := by decide +kernel
theorem dd_106_48 : decode (mB 106) 48 = .ok (.iload_n 2, 1) := by decide +kernel
theorem dd_106_49 : decode (mB 106) 49 = .ok (.ireturn, 1) := by decide +kernel
theorem dd_107_0 : decode (mB 107) 0 = .ok (.iload_n 3, 1) := by decide +kernel
theorem dd_107_1 : decode (mB 107) 1 = .ok (.tableswitch 223 1 7 #[43, 58, 74, 90, 122, 160, 106], 43) := by decide +kernel
theorem dd_107_44 : decode (mB 107) 44 = .ok (.aload_n 1, 1) := by decide +kernel
theorem dd_107_45 : decode (mB 107) 45 = .ok (.getfield 77, 3) := by decide +kernel
theorem dd_107_48 : decode (mB 107) 48 = .ok (.iload_n 2, 1) := by decide +kernel
theorem dd_107_49 : decode (mB 107) 49 = .ok (.aload_n 0, 1) := by decide +kernel
theorem dd_107_50 : decode (mB 107) 50 = .ok (.iconst 1, 1) := by decide +kernel
theorem dd_107_51 : decode (mB 107) 51 = .ok (.iconst 3, 1) := by decide +kernel
theorem dd_107_52 : decode (mB 107) 52 = .ok (.invokevirtual 83, 3) := by decide +kernel
theorem dd_107_55 : decode (mB 107) 55 = .ok (.iastore, 1) := by decide +kernel
theorem dd_107_56 : decode (mB 107) 56 = .ok (.goto 182, 3) := by decide +kernel
theorem dd_107_59 : decode (mB 107) 59 = .ok (.aload_n 1, 1) := by decide +kernel
theorem dd_107_60 : decode (mB 107) 60 = .ok (.getfield 77, 3) := by decide +kernel
theorem dd_107_63 : decode (mB 107) 63 = .ok (.iload_n 2, 1) := by decide +kernel
theorem dd_107_64 : decode (mB 107) 64 = .ok (.aload_n 0, 1) := by decide +kernel
theorem dd_107_65 : decode (mB 107) 65 = .ok (.iconst 0, 1) := by decide +kernel
theorem dd_107_66 : decode (mB 107) 66 = .ok (.bipush 60, 2) := by decide +kernel
theorem dd_107_68 : decode (mB 107) 68 = .ok (.invokevirtual 83, 3) := by decide +kernel
theorem dd_107_71 : decode (mB 107) 71 = .ok (.iastore, 1) := by decide +kernel
theorem dd_107_72 : decode (mB 107) 72 = .ok (.goto 166, 3) := by decide +kernel
theorem dd_107_75 : decode (mB 107) 75 = .ok (.aload_n 1, 1) := by decide +kernel
theorem dd_107_76 : decode (mB 107) 76 = .ok (.getfield 77, 3) := by decide +kernel
theorem dd_107_79 : decode (mB 107) 79 = .ok (.iload_n 2, 1) := by decide +kernel
theorem dd_107_80 : decode (mB 107) 80 = .ok (.aload_n 0, 1) := by decide +kernel
theorem dd_107_81 : decode (mB 107) 81 = .ok (.iconst 0, 1) := by decide +kernel
theorem dd_107_82 : decode (mB 107) 82 = .ok (.bipush 60, 2) := by decide +kernel
theorem dd_107_84 : decode (mB 107) 84 = .ok (.invokevirtual 83, 3) := by decide +kernel
theorem dd_107_87 : decode (mB 107) 87 = .ok (.iastore, 1) := by decide +kernel
theorem dd_107_88 : decode (mB 107) 88 = .ok (.goto 150, 3) := by decide +kernel
theorem dd_107_91 : decode (mB 107) 91 = .ok (.aload_n 1, 1) := by decide +kernel
theorem dd_107_92 : decode (mB 107) 92 = .ok (.getfield 77, 3) := by decide +kernel
theorem dd_107_95 : decode (mB 107) 95 = .ok (.iload_n 2, 1) := by decide +kernel
theorem dd_107_96 : decode (mB 107) 96 = .ok (.aload_n 0, 1) := by decide +kernel
theorem dd_107_97 : decode (mB 107) 97 = .ok (.iconst 0, 1) := by decide +kernel
theorem dd_107_98 : decode (mB 107) 98 = .ok (.bipush 99, 2) := by decide +kernel
theorem dd_107_100 : decode (mB 107) 100 = .ok (.invokevirtual 83, 3) := by decide +kernel
theorem dd_107_103 : decode (mB 107) 103 = .ok (.iastore, 1) := by decide +kernel
theorem dd_107_104 : decode (mB 107) 104 = .ok (.goto 134, 3) := by decide +kernel
theorem dd_107_107 : decode (mB 107) 107 = .ok (.aload_n 1, 1) := by decide +kernel
theorem dd_107_108 : decode (mB 107) 108 = .ok (.getfield 77, 3) := by decide +kernel
theorem dd_107_111 : decode (mB 107) 111 = .ok (.iload_n 2, 1) := by decide +kernel
theorem dd_107_112 : decode (mB 107) 112 = .ok (.aload_n 0, 1) := by decide +kernel
theorem dd_107_113 : decode (mB 107) 113 = .ok (.iconst 0, 1) := by decide +kernel
theorem dd_107_114 : decode (mB 107) 114 = .ok (.bipush 100, 2) := by decide +kernel
theorem dd_107_116 : decode (mB 107) 116 = .ok (.invokevirtual 83, 3) := by decide +kernel
theorem dd_107_119 : decode (mB 107) 119 = .ok (.iastore, 1) := by decide +kernel
theorem dd_107_120 : decode (mB 107) 120 = .ok (.goto 118, 3) := by decide +kernel
theorem dd_107_123 : decode (mB 107) 123 = .ok (.aload_n 1, 1) := by decide +kernel
theorem dd_107_124 : decode (mB 107) 124 = .ok (.getfield 77, 3) := by decide +kernel
theorem dd_107_127 : decode (mB 107) 127 = .ok (.iload_n 2, 1) := by decide +kernel
theorem dd_107_128 : decode (mB 107) 128 = .ok (.aload_n 0, 1) := by decide +kernel
theorem dd_107_129 : decode (mB 107) 129 = .ok (.iconst 0, 1) := by decide +kernel
theorem dd_107_130 : decode (mB 107) 130 = .ok (.sipush 999, 3) := by decide +kernel
theorem dd_107_133 : decode (mB 107) 133 = .ok (.invokevirtual 83, 3) := by decide +kernel
theorem dd_107_136 : decode (mB 107) 136 = .ok (.iastore, 1) := by decide +kernel
theorem dd_107_137 : decode (mB 107) 137 = .ok (.aload_n 0, 1) := by decide +kernel
theorem dd_107_138 : decode (mB 107) 138 = .ok (.ldc 87, 2) := by decide +kernel
theorem dd_107_140 : decode (mB 107) 140 = .ok (.invokevirtual 49, 3) := by decide +kernel
theorem dd_107_143 : decode (mB 107) 143 = .ok (.pop, 1) := by decide +kernel
theorem dd_107_144 : decode (mB 107) 144 = .ok (.aload_n 1, 1) := by decide +kernel
theorem dd_107_145 : decode (mB 107) 145 = .ok (.getfield 80, 3) := by decide +kernel
theorem dd_107_148 : decode (mB 107) 148 = .ok (.iload_n 2, 1) := by decide +kernel
theorem dd_107_149 : decode (mB 107) 149 = .ok (.aload_n 0, 1) := by decide +kernel
theorem dd_107_150 : decode (mB 107) 150 = .ok (.iconst 1, 1) := by decide +kernel
theorem dd_107_151 : decode (mB 107) 151 = .ok (.sipush 999, 3) := by decide +kernel
theorem dd_107_154 : decode (mB 107) 154 = .ok (.invokevirtual 83, 3) := by decide +kernel
theorem dd_107_157 : decode (mB 107) 157 = .ok (.iastore, 1) := by decide +kernel
theorem dd_107_158 : decode (mB 107) 158 = .ok (.goto 80, 3) := by decide +kernel
theorem dd_107_161 : decode (mB 107) 161 = .ok (.aload_n 1, 1) := by decide +kernel
theorem dd_107_162 : decode (mB 107) 162 = .ok (.getfield 77, 3) := by decide +kernel
theorem dd_107_165 : decode (mB 107) 165 = .ok (.iload_n 2, 1) := by decide +kernel
theorem dd_107_166 : decode (mB 107) 166 = .ok (.aload_n 0, 1) := by decide +kernel
theorem dd_107_167 : decode (mB 107) 167 = .ok (.iconst 0, 1) := by decide +kernel
theorem dd_107_168 : decode (mB 107) 168 = .ok (.sipush 479, 3) := by decide +kernel
theorem dd_107_171 : decode (mB 107) 171 = .ok (.invokevirtual 83, 3) := by decide +kernel
theorem dd_107_174 : decode (mB 107) 174 = .ok (.iastore, 1) := by decide +kernel
theorem dd_107_175 : decode (mB 107) 175 = .ok (.aload_n 0, 1) := by decide +kernel
theorem dd_107_176 : decode (mB 107) 176 = .ok (.ldc 87, 2) := by decide +kernel
theorem dd_107_178 : decode (mB 107) 178 = .ok (.invokevirtual 49, 3) := by decide +kernel
theorem dd_107_181 : decode (mB 107) 181 = .ok (.pop, 1) := by decide +kernel
theorem dd_107_182 : decode (mB 107) 182 = .ok (.aload_n 1, 1) := by decide +kernel
theorem dd_107_183 : decode (mB 107) 183 = .ok (.getfield 80, 3) := by decide +kernel
theorem dd_107_186 : decode (mB 107) 186 = .ok (.iload_n 2, 1) := by decide +kernel
theorem dd_107_187 : decode (mB 107) 187 = .ok (.aload_n 0, 1) := by decide +kernel
theorem dd_107_188 : decode (mB 107) 188 = .ok (.aload_n 1, 1) := by decide +kernel
theorem dd_107_189 : decode (mB 107) 189 = .ok (.getfield 77, 3) := by decide +kernel
theorem dd_107_192 : decode (mB 107) 192 = .ok (.iload_n 2, 1) := by decide +kernel
theorem dd_107_193 : decode (mB 107) 193 = .ok (.iaload, 1) := by decide +kernel
theorem dd_107_194 : decode (mB 107) 194 = .ok (.sipush 479, 3) := by decide +kernel
theorem dd_107_197 : decode (mB 107) 197 = .ok (.invokevirtual 83, 3) := by decide +kernel
theorem dd_107_200 : decode (mB 107) 200 = .ok (.iastore, 1) := by decide +kernel
theorem dd_107_201 : decode (mB 107) 201 = .ok (.aload_n 0, 1) := by decide +kernel
theorem dd_107_202 : decode (mB 107) 202 = .ok (.ldc 89, 2) := by decide +kernel
theorem dd_107_204 : decode (mB 107) 204 = .ok (.invokevirtual 49, 3) := by decide +kernel
theorem dd_107_207 : decode (mB 107) 207 = .ok (.pop, 1) := by decide +kernel
theorem dd_107_208 : decode (mB 107) 208 = .ok (.aload_n 1, 1) := by decide +kernel
theorem dd_107_209 : decode (mB 107) 209 = .ok (.getfield 91, 3) := by decide +kernel
theorem dd_107_212 : decode (mB 107) 212 = .ok (.iload_n 2, 1) := by decide +kernel
theorem dd_107_213 : decode (mB 107) 213 = .ok (.aload_n 0, 1) := by decide +kernel
theorem dd_107_214 : decode (mB 107) 214 = .ok (.iconst 0, 1) := by decide +kernel
theorem dd_107_215 : decode (mB 107) 215 = .ok (.bipush 100, 2) := by decide +kernel
theorem dd_107_217 : decode (mB 107) 217 = .ok (.invokevirtual 83, 3) := by decide +kernel
theorem dd_107_220 : decode (mB 107) 220 = .ok (.iastore, 1) := by decide +kernel
theorem dd_107_221 : decode (mB 107) 221 = .ok (.goto 17, 3) := by decide +kernel
theorem dd_107_224 : decode (mB 107) 224 = .ok (.aload_n 1, 1) := by decide +kernel
theorem dd_107_225 : decode (mB 107) 225 = .ok (.getfield 77, 3) := by decide +kernel
theorem dd_107_228 : decode (mB 107) 228 = .ok (.iload_n 2, 1) := by decide +kernel
theorem dd_107_229 : decode (mB 107) 229 = .ok (.aload_n 0, 1) := by decide +kernel
theorem dd_107_230 : decode (mB 107) 230 = .ok (.aload_n 1, 1) := by decide +kernel
theorem dd_107_231 : decode (mB 107) 231 = .ok (.getfield 36, 3) := by decide +kernel
theorem dd_107_234 : decode (mB 107) 234 = .ok (.invokevirtual 94, 3) := by decide +kernel
theorem dd_107_237 : decode (mB 107) 237 = .ok (.iastore, 1) := by decide +kernel
theorem dd_107_238 : decode (mB 107) 238 = .ok (.return_, 1) := by decide +kernel
theorem dd_108_0 : decode (mB 108) 0 = .ok (.aload_n 0, 1) := by decide +kernel
theorem dd_108_1 : decode (mB 108) 1 = .ok (.invokevirtual 44, 3) := by decide +kernel
theorem dd_108_4 : decode (mB 108) 4 = .ok (.aload_n 0, 1) := by decide +kernel
theorem dd_108_5 : decode (mB 108) 5 = .ok (.getfield 25, 3) := by decide +kernel
theorem dd_108_8 : decode (mB 108) 8 = .ok (.istore_n 3, 1) := by decide +kernel
theorem dd_108_9 : decode (mB 108) 9 = .ok (.iconst 0, 1) := by decide +kernel
theorem dd_108_10 : decode (mB 108) 10 = .ok (.istore 4, 2) := by decide +kernel
theorem dd_108_12 : decode (mB 108) 12 = .ok (.aload_n 0, 1) := by decide +kernel
theorem dd_108_13 : decode (mB 108) 13 = .ok (.getfield 25, 3) := by decide +kernel
theorem dd_108_16 : decode (mB 108) 16 = .ok (.aload_n 0, 1) := by decide +kernel
theorem dd_108_17 : decode (mB 108) 17 = .ok (.getfield 15, 3) := by decide +kernel
theorem dd_108_20 : decode (mB 108) 20 = .ok (.if_icmp .ge 65, 3) := by decide +kernel
theorem dd_108_23 : decode (mB 108) 23 = .ok (.aload_n 0, 1) := by decide +kernel
theorem dd_108_24 : decode (mB 108) 24 = .ok (.getfield 9, 3) := by decide +kernel
theorem dd_108_27 : decode (mB 108) 27 = .ok (.aload_n 0, 1) := by decide +kernel
theorem dd_108_28 : decode (mB 108) 28 = .ok (.getfield 25, 3) := by decide +kernel
theorem dd_108_31 : decode (mB 108) 31 = .ok (.iaload, 1) := by decide +kernel
theorem dd_108_32 : decode (mB 108) 32 = .ok (.bipush 48, 2) := by decide +kernel
theorem dd_108_34 : decode (mB 108) 34 = .ok (.bipush 57, 2) := by decide +kernel
theorem dd_108_36 : decode (mB 108) 36 = .ok (.invokestatic 98, 3) := by decide +kernel
theorem dd_108_39 : decode (mB 108) 39 = .ok (.ifCond .eq 46, 3) := by decide +kernel
theorem dd_108_42 : decode (mB 108) 42 = .ok (.aload_n 0, 1) := by decide +kernel
theorem dd_108_43 : decode (mB 108) 43 = .ok (.getfield 25, 3) := by decide +kernel
theorem dd_108_46 : decode (mB 108) 46 = .ok (.iload_n 3, 1) := by decide +kernel
theorem dd_108_47 : decode (mB 108) 47 = .ok (.isub, 1) := by decide +kernel
theorem dd_108_48 : decode (mB 108) 48 = .ok (.iconst 5, 1) := by decide +kernel
theorem dd_108_49 : decode (mB 108) 49 = .ok (.if_icmp .ge 23, 3) := by decide +kernel
theorem dd_108_52 : decode (mB 108) 52 = .ok (.iload 4, 2) := by decide +kernel
theorem dd_108_54 : decode (mB 108) 54 = .ok (.bipush 10, 2) := by decide +kernel
theorem dd_108_56 : decode (mB 108) 56 = .ok (.imul, 1) := by decide +kernel
theorem dd_108_57 : decode (mB 108) 57 = .ok (.aload_n 0, 1) := by decide +kernel
theorem dd_108_58 : decode (mB 108) 58 = .ok (.getfield 9, 3) := by decide +kernel
theorem dd_108_61 : decode (mB 108) 61 = .ok (.aload_n 0, 1) := by decide +kernel
theorem dd_108_62 : decode (mB 108) 62 = .ok (.getfield 25, 3) := by decide +kernel
theorem dd_108_65 : decode (mB 108) 65 = .ok (.iaload, 1) := by decide +kernel
theorem dd_108_66 : decode (mB 108) 66 = .ok (.iadd, 1) := by decide +kernel
theorem dd_108_67 : decode (mB 108) 67 = .ok (.bipush 48, 2) := by decide +kernel
theorem dd_108_69 : decode (mB 108) 69 = .ok (.isub, 1) := by decide +kernel
theorem dd_108_70 : decode (mB 108) 70 = .ok (.istore 4, 2) := by decide +kernel
theorem dd_108_72 : decode (mB 108) 72 = .ok (.aload_n 0, 1) := by decide +kernel
theorem dd_108_73 : decode (mB 108) 73 = .ok (.dup, 1) := by decide +kernel
theorem dd_108_74 : decode (mB 108) 74 = .ok (.getfield 25, 3) := by decide +kernel
theorem dd_108_77 : decode (mB 108) 77 = .ok (.iconst 1, 1) := by decide +kernel
theorem dd_108_78 : decode (mB 108) 78 = .ok (.iadd, 1) := by decide +kernel
theorem dd_108_79 : decode (mB 108) 79 = .ok (.putfield 25, 3) := by decide +kernel
theorem dd_108_82 : decode (mB 108) 82 = .ok (.goto (-70), 3) := by decide +kernel
theorem dd_108_85 : decode (mB 108) 85 = .ok (.aload_n 0, 1) := by decide +kernel
theorem dd_108_86 : decode (mB 108) 86 = .ok (.getfield 25, 3) := by decide +kernel
theorem dd_108_89 : decode (mB 108) 89 = .ok (.iload_n 3, 1) := by decide +kernel
theorem dd_108_90 : decode (mB 108) 90 = .ok (.if_icmp .ne 12, 3) := by decide +kernel
theorem dd_108_93 : decode (mB 108) 93 = .ok (.aload_n 0, 1) := by decide +kernel
theorem dd_108_94 : decode (mB 108) 94 = .ok (.iconst 1, 1) := by decide +kernel
theorem dd_108_95 : decode (mB 108) 95 = .ok (.iload_n 3, 1) := by decide +kernel
theorem dd_108_96 : decode (mB 108) 96 = .ok (.invokevirtual 53, 3) := by decide +kernel
theorem dd_108_99 : decode (mB 108) 99 = .ok (.goto 29, 3) := by decide +kernel
theorem dd_108_102 : decode (mB 108) 102 = .ok (.aload_n 0, 1) := by decide +kernel
theorem dd_108_103 : decode (mB 108) 103 = .ok (.getfield 25, 3) := by decide +kernel
theorem dd_108_106 : decode (mB 108) 106 = .ok (.iload_n 3, 1) := by decide +kernel
theorem dd_108_107 : decode (mB 108) 107 = .ok (.isub, 1) := by decide +kernel
theorem dd_108_108 : decode (mB 108) 108 = .ok (.iconst 4, 1) := by decide +kernel
theorem dd_108_109 : decode (mB 108) 109 = .ok (.if_icmp .gt 13, 3) := by decide +kernel
theorem dd_108_112 : decode (mB 108) 112 = .ok (.iload 4, 2) := by decide +kernel
theorem dd_108_114 : decode (mB 108) 114 = .ok (.iload_n 1, 1) := by decide +kernel
theorem dd_108_115 : decode (mB 108) 115 = .ok (.iload_n 2, 1) := by decide +kernel
theorem dd_108_116 : decode (mB 108) 116 = .ok (.invokestatic 98, 3) := by decide +kernel
theorem dd_108_119 : decode (mB 108) 119 = .ok (.ifCond .ne 9, 3) := by decide +kernel
theorem dd_108_122 : decode (mB 108) 122 = .ok (.aload_n 0, 1) := by decide +kernel
theorem dd_108_123 : decode (mB 108) 123 = .ok (.iconst 2, 1) := by decide +kernel
theorem dd_108_124 : decode (mB 108) 124 = .ok (.iload_n 3, 1) := by decide +kernel
theorem dd_108_125 : decode (mB 108) 125 = .ok (.invokevirtual 53, 3) := by decide +kernel
theorem dd_108_128 : decode (mB 108) 128 = .ok (.iload 4, 2) := by decide +kernel
theorem dd_108_130 : decode (mB 108) 130 = .ok (.ireturn, 1) := by decide +kernel
theorem dd_109_0 : decode (mB 109) 0 = .ok (.aload_n 0, 1) := by decide +kernel
theorem dd_109_1 : decode (mB 109) 1 = .ok (.invokevirtual 44, 3) := by decide +kernel
theorem dd_109_4 : decode (mB 109) 4 = .ok (.aload_n 0, 1) := by decide +kernel
theorem dd_109_5 : decode (mB 109) 5 = .ok (.getfield 25, 3) := by decide +kernel
theorem dd_109_8 : decode (mB 109) 8 = .ok (.istore_n 2, 1) := by decide +kernel
theorem dd_109_9 : decode (mB 109) 9 = .ok (.aload_n 0, 1) := by decide +kernel
theorem dd_109_10 : decode (mB 109) 10 = .ok (.iconst 0, 1) := by decide +kernel
theorem dd_109_11 : decode (mB 109) 11 = .ok (.sipush 9999, 3) := by decide +kernel
theorem dd_109_14 : decode (mB 109) 14 = .ok (.invokevirtual 83, 3) := by decide +kernel
theorem dd_109_17 : decode (mB 109) 17 = .ok (.istore_n 3, 1) := by decide +kernel
theorem dd_109_18 : decode (mB 109) 18 = .ok (.aload_n 0, 1) := by decide +kernel
theorem dd_109_19 : decode (mB 109) 19 = .ok (.getfield 19, 3) := by decide +kernel
theorem dd_109_22 : decode (mB 109) 22 = .ok (.ifCond .ne 14, 3) := by decide +kernel
theorem dd_109_25 : decode (mB 109) 25 = .ok (.iload_n 3, 1) := by decide +kernel
theorem dd_109_26 : decode (mB 109) 26 = .ok (.iload_n 1, 1) := by decide +kernel
theorem dd_109_27 : decode (mB 109) 27 = .ok (.if_icmp .lt 9, 3) := by decide +kernel
theorem dd_109_30 : decode (mB 109) 30 = .ok (.aload_n 0, 1) := by decide +kernel
theorem dd_109_31 : decode (mB 109) 31 = .ok (.iconst 3, 1) := by decide +kernel
theorem dd_109_32 : decode (mB 109) 32 = .ok (.iload_n 2, 1) := by decide +kernel
theorem dd_109_33 : decode (mB 109) 33 = .ok (.invokevirtual 53, 3) := by decide +kernel
theorem dd_109_36 : decode (mB 109) 36 = .ok (.iload_n 3, 1) := by decide +kernel
theorem dd_109_37 : decode (mB 109) 37 = .ok (.ireturn, 1) := by decide +kernel
theorem dd_110_0 : decode (mB 110) 0 = .ok (.aload_n 0, 1) := by decide +kernel
theorem dd_110_1 : decode (mB 110) 1 = .ok (.iload_n 1, 1) := by decide +kernel
theorem dd_110_2 : decode (mB 110) 2 = .ok (.invokevirtual 73, 3) := by decide +kernel
theorem dd_110_5 : decode (mB 110) 5 = .ok (.ifCond .ne 12, 3) := by decide +kernel
theorem dd_110_8 : decode (mB 110) 8 = .ok (.aload_n 0, 1) := by decide +kernel
theorem dd_110_9 : decode (mB 110) 9 = .ok (.iconst 1, 1) := by decide +kernel
theorem dd_110_10 : decode (mB 110) 10 = .ok (.aload_n 0, 1) := by decide +kernel
theorem dd_110_11 : decode (mB 110) 11 = .ok (.getfield 25, 3) := by decide +kernel
theorem dd_110_14 : decode (mB 110) 14 = .ok (.invokevirtual 53, 3) := by decide +kernel
theorem dd_110_17 : decode (mB 110) 17 = .ok (.return_, 1) := by decide +kernel
theorem dd_111_0 : decode (mB 111) 0 = .ok (.aload_n 0, 1) := by decide +kernel
theorem dd_111_1 : decode (mB 111) 1 = .ok (.getfield 46, 3) := by decide +kernel
theorem dd_111_4 : decode (mB 111) 4 = .ok (.getfield 290, 3) := by decide +kernel
theorem dd_111_7 : decode (mB 111) 7 = .ok (.ireturn, 1) := by decide +kernel
theorem dd_112_0 : decode (mB 112) 0 = .ok (.iload_n 1, 1) := by decide +kernel
theorem dd_112_1 : decode (mB 112) 1 = .ok (.iconst 0, 1) := by decide +kernel
theorem dd_112_2 : decode (mB 112) 2 = .ok (.sipush 479, 3) := by decide +kernel
theorem dd_112_5 : decode (mB 112) 5 = .ok (.invokestatic 88, 3) := by decide +kernel
theorem dd_112_8 : decode (mB 112) 8 = .ok (.ifCond .ne 6, 3) := by decide +kernel
theorem dd_112_11 : decode (mB 112) 11 = .ok (.ldc 92, 2) := by decide +kernel
theorem dd_112_13 : decode (mB 112) 13 = .ok (.ireturn, 1) := by decide +kernel
theorem dd_112_14 : decode (mB 112) 14 = .ok (.aload_n 0, 1) := by decide +kernel
theorem dd_112_15 : decode (mB 112) 15 = .ok (.getfield 39, 3) := by decide +kernel
theorem dd_112_18 : decode (mB 112) 18 = .ok (.iload_n 1, 1) := by decide +kernel
theorem dd_112_19 : decode (mB 112) 19 = .ok (.iconst 0, 1) := by decide +kernel
theorem dd_112_20 : decode (mB 112) 20 = .ok (.invokevirtual 174, 3) := by decide +kernel
theorem dd_112_23 : decode (mB 112) 23 = .ok (.iload_n 2, 1) := by decide +kernel
theorem dd_112_24 : decode (mB 112) 24 = .ok (.bipush 6, 2) := by decide +kernel
theorem dd_112_26 : decode (mB 112) 26 = .ok (.bipush 10, 2) := by decide +kernel
theorem dd_112_28 : decode (mB 112) 28 = .ok (.invokestatic 88, 3) := by decide +kernel
theorem dd_112_31 : decode (mB 112) 31 = .ok (.ifCond .eq 15, 3) := by decide +kernel
theorem dd_112_34 : decode (mB 112) 34 = .ok (.aload_n 0, 1) := by decide +kernel
theorem dd_112_35 : decode (mB 112) 35 = .ok (.getfield 39, 3) := by decide +kernel
theorem dd_112_38 : decode (mB 112) 38 = .ok (.iload_n 2, 1) := by decide +kernel
theorem dd_112_39 : decode (mB 112) 39 = .ok (.bipush 6, 2) := by decide +kernel
theorem dd_112_41 : decode (mB 112) 41 = .ok (.isub, 1) := by decide +kernel
theorem dd_112_42 : decode (mB 112) 42 = .ok (.invokevirtual 293, 3) := by decide +kernel
theorem dd_112_45 : decode (mB 112) 45 = .ok (.ireturn, 1) := by decide +kernel
theorem dd_112_46 : decode (mB 112) 46 = .ok (.iload_n 2, 1) := by decide +kernel
theorem dd_112_47 : decode (mB 112) 47 = .ok (.bipush 21, 2) := by decide +kernel
theorem dd_112_49 : decode (mB 112) 49 = .ok (.sipush 920, 3) := by decide +kernel
theorem dd_112_52 : decode (mB 112) 52 = .ok (.invokestatic 88, 3) := by decide +kernel
theorem dd_112_55 : decode (mB 112) 55 = .ok (.ifCond .eq 15, 3) := by decide +kernel
theorem dd_112_58 : decode (mB 112) 58 = .ok (.aload_n 0, 1) := by decide +kernel
theorem dd_112_59 : decode (mB 112) 59 = .ok (.getfield 39, 3) := by decide +kernel
theorem dd_112_62 : decode (mB 112) 62 = .ok (.iload_n 2, 1) := by decide +kernel
theorem dd_112_63 : decode (mB 112) 63 = .ok (.bipush 20, 2) := by decide +kernel
theorem dd_112_65 : decode (mB 112) 65 = .ok (.isub, 1) := by decide +kernel
theorem dd_112_66 : decode (mB 112) 66 = .ok (.invokevirtual 296, 3) := by decide +kernel
theorem dd_112_69 : decode (mB 112) 69 = .ok (.ireturn, 1) := by decide +kernel
theorem dd_112_70 : decode (mB 112) 70 = .ok (.iload_n 2, 1) := by decide +kernel
theorem dd_112_71 : decode (mB 112) 71 = .ok (.lookupswitch 122 #[(0, 65), (1, 73), (2, 81), (3, 89), (4, 97), (5, 105), (1000, 113)], 65) := by decide +kernel
theorem dd_112_136 : decode (mB 112) 136 = .ok (.aload_n 0, 1) := by decide +kernel
theorem dd_112_137 : decode (mB 112) 137 = .ok (.getfield 39, 3) := by decide +kernel
theorem dd_112_140 : decode (mB 112) 140 = .ok (.getfield 299, 3) := by decide +kernel
theorem dd_112_143 : decode (mB 112) 143 = .ok (.ireturn, 1) := by decide +kernel
theorem dd_112_144 : decode (mB 112) 144 = .ok (.aload_n 0, 1) := by decide +kernel
theorem dd_112_145 : decode (mB 112) 145 = .ok (.getfield 39, 3) := by decide +kernel
theorem dd_112_148 : decode (mB 112) 148 = .ok (.getfield 302, 3) := by decide +kernel
theorem dd_112_151 : decode (mB 112) 151 = .ok (.ireturn, 1) := by decide +kernel
theorem dd_112_152 : decode (mB 112) 152 = .ok (.aload_n 0, 1) := by decide +kernel
theorem dd_112_153 : decode (mB 112) 153 = .ok (.getfield 39, 3) := by decide +kernel
theorem dd_112_156 : decode (mB 112) 156 = .ok (.getfield 305, 3) := by decide +kernel
theorem dd_112_159 : decode (mB 112) 159 = .ok (.ireturn, 1) := by decide +kernel
theorem dd_112_160 : decode (mB 112) 160 = .ok (.aload_n 0, 1) := by decide +kernel
theorem dd_112_161 : decode (mB 112) 161 = .ok (.getfield 39, 3) := by decide +kernel
theorem dd_112_164 : decode (mB 112) 164 = .ok (.getfield 178, 3) := by decide +kernel
theorem dd_112_167 : decode (mB 112) 167 = .ok (.ireturn, 1) := by decide +kernel
theorem dd_112_168 : decode (mB 112) 168 = .ok (.aload_n 0, 1) := by decide +kernel
theorem dd_112_169 : decode (mB 112) 169 = .ok (.getfield 39, 3) := by decide +kernel
theorem dd_112_172 : decode (mB 112) 172 = .ok (.getfield 308, 3) := by decide +kernel
theorem dd_112_175 : decode (mB 112) 175 = .ok (.ireturn, 1) := by decide +kernel
theorem dd_112_176 : decode (mB 112) 176 = .ok (.aload_n 0, 1) := by decide +kernel
theorem dd_112_177 : decode (mB 112) 177 = .ok (.getfield 39, 3) := by decide +kernel
theorem dd_112_180 : decode (mB 112) 180 = .ok (.getfield 311, 3) := by decide +kernel
theorem dd_112_183 : decode (mB 112) 183 = .ok (.ireturn, 1) := by decide +kernel
theorem dd_112_184 : decode (mB 112) 184 = .ok (.aload_n 0, 1) := by decide +kernel
theorem dd_112_185 : decode (mB 112) 185 = .ok (.getfield 39, 3) := by decide +kernel
theorem dd_112_188 : decode (mB 112) 188 = .ok (.iload_n 1, 1) := by decide +kernel
theorem dd_112_189 : decode (mB 112) 189 = .ok (.invokevirtual 314, 3) := by decide +kernel
theorem dd_112_192 : decode (mB 112) 192 = .ok (.ireturn, 1) := by decide +kernel
theorem dd_112_193 : decode (mB 112) 193 = .ok (.ldc 92, 2) := by decide +kernel
theorem dd_112_195 : decode (mB 112) 195 = .ok (.ireturn, 1) := by decide +kernel
theorem dd_113_0 : decode (mB 113) 0 = .ok (.iload_n 1, 1) := by decide +kernel
theorem dd_113_1 : decode (mB 113) 1 = .ok (.ifCond .lt 11, 3) := by decide +kernel
theorem dd_113_4 : decode (mB 113) 4 = .ok (.iload_n 1, 1) := by decide +kernel
theorem dd_113_5 : decode (mB 113) 5 = .ok (.aload_n 0, 1) := by decide +kernel
theorem dd_113_6 : decode (mB 113) 6 = .ok (.getfield 37, 3) := by decide +kernel
theorem dd_113_9 : decode (mB 113) 9 = .ok (.if_icmp .lt 7, 3) := by decide +kernel
theorem dd_113_12 : decode (mB 113) 12 = .ok (.iconst (-1), 1) := by decide +kernel
theorem dd_113_13 : decode (mB 113) 13 = .ok (.goto 9, 3) := by decide +kernel
theorem dd_113_16 : decode (mB 113) 16 = .ok (.aload_n 0, 1) := by decide +kernel
theorem dd_113_17 : decode (mB 113) 17 = .ok (.getfield 40, 3) := by decide +kernel
theorem dd_113_20 : decode (mB 113) 20 = .ok (.iload_n 1, 1) := by decide +kernel
theorem dd_113_21 : decode (mB 113) 21 = .ok (.iaload, 1) := by decide +kernel
theorem dd_113_22 : decode (mB 113) 22 = .ok (.ireturn, 1) := by decide +kernel
theorem dd_114_0 : decode (mB 114) 0 = .ok (.iload_n 1, 1) := by decide +kernel
theorem dd_114_1 : decode (mB 114) 1 = .ok (.invokestatic 83, 3) := by decide +kernel
theorem dd_114_4 : decode (mB 114) 4 = .ok (.ifCond .eq 10, 3) := by decide +kernel
theorem dd_114_7 : decode (mB 114) 7 = .ok (.iload_n 2, 1) := by decide +kernel
theorem dd_114_8 : decode (mB 114) 8 = .ok (.invokestatic 83, 3) := by decide +kernel
theorem dd_114_11 : decode (mB 114) 11 = .ok (.ifCond .ne 6, 3) := by decide +kernel
theorem dd_114_14 : decode (mB 114) 14 = .ok (.ldc 87, 2) := by decide +kernel
theorem dd_114_16 : decode (mB 114) 16 = .ok (.ireturn, 1) := by decide +kernel
theorem dd_114_17 : decode (mB 114) 17 = .ok (.iload_n 1, 1) := by decide +kernel
theorem dd_114_18 : decode (mB 114) 18 = .ok (.iload_n 2, 1) := by decide +kernel
theorem dd_114_19 : decode (mB 114) 19 = .ok (.if_icmp .eq 26, 3) := by decide +kernel
theorem dd_114_22 : decode (mB 114) 22 = .ok (.iload_n 3, 1) := by decide +kernel
theorem dd_114_23 : decode (mB 114) 23 = .ok (.iconst 0, 1) := by decide +kernel
theorem dd_114_24 : decode (mB 114) 24 = .ok (.sipush 9999, 3) := by decide +kernel
theorem dd_114_27 : decode (mB 114) 27 = .ok (.invokestatic 88, 3) := by decide +kernel
theorem dd_114_30 : decode (mB 114) 30 = .ok (.ifCond .eq 15, 3) := by decide +kernel
theorem dd_114_33 : decode (mB 114) 33 = .ok (.iload 4, 2) := by decide +kernel
theorem dd_114_35 : decode (mB 114) 35 = .ok (.iconst 0, 1) := by decide +kernel
theorem dd_114_36 : decode (mB 114) 36 = .ok (.sipush 9999, 3) := by decide +kernel
theorem dd_114_39 : decode (mB 114) 39 = .ok (.invokestatic 88, 3) := by decide +kernel
theorem dd_114_42 : decode (mB 114) 42 = .ok (.ifCond .ne 6, 3) := by decide +kernel
theorem dd_114_45 : decode (mB 114) 45 = .ok (.ldc 92, 2) := by decide +kernel
theorem dd_114_47 : decode (mB 114) 47 = .ok (.ireturn, 1) := by decide +kernel
theorem dd_114_48 : decode (mB 114) 48 = .ok (.aload_n 0, 1) := by decide +kernel
theorem dd_114_49 : decode (mB 114) 49 = .ok (.getfield 62, 3) := by decide +kernel
theorem dd_114_52 : decode (mB 114) 52 = .ok (.getfield 151, 3) := by decide +kernel
theorem dd_114_55 : decode (mB 114) 55 = .ok (.bipush 40, 2) := by decide +kernel
theorem dd_114_57 : decode (mB 114) 57 = .ok (.if_icmp .lt 6, 3) := by decide +kernel
theorem dd_114_60 : decode (mB 114) 60 = .ok (.ldc 96, 2) := by decide +kernel
theorem dd_114_62 : decode (mB 114) 62 = .ok (.ireturn, 1) := by decide +kernel
theorem dd_114_63 : decode (mB 114) 63 = .ok (.aload_n 0, 1) := by decide +kernel
theorem dd_114_64 : decode (mB 114) 64 = .ok (.getfield 62, 3) := by decide +kernel
theorem dd_114_67 : decode (mB 114) 67 = .ok (.iload_n 1, 1) := by decide +kernel
theorem dd_114_68 : decode (mB 114) 68 = .ok (.iload_n 2, 1) := by decide +kernel
theorem dd_114_69 : decode (mB 114) 69 = .ok (.iload 4, 2) := by decide +kernel
theorem dd_114_71 : decode (mB 114) 71 = .ok (.iload_n 3, 1) := by decide +kernel
theorem dd_114_72 : decode (mB 114) 72 = .ok (.isub, 1) := by decide +kernel
theorem dd_114_73 : decode (mB 114) 73 = .ok (.invokevirtual 317, 3) := by decide +kernel
theorem dd_114_76 : decode (mB 114) 76 = .ok (.aload_n 0, 1) := by decide +kernel
theorem dd_114_77 : decode (mB 114) 77 = .ok (.getfield 62, 3) := by decide +kernel
theorem dd_114_80 : decode (mB 114) 80 = .ok (.getfield 151, 3) := by decide +kernel
theorem dd_114_83 : decode (mB 114) 83 = .ok (.ireturn, 1) := by decide +kernel
theorem dd_115_0 : decode (mB 115) 0 = .ok (.aload_n 0, 1) := by decide +kernel
theorem dd_115_1 : decode (mB 115) 1 = .ok (.dup, 1) := by decide +kernel
theorem dd_115_2 : decode (mB 115) 2 = .ok (.getfield 9, 3) := by decide +kernel
theorem dd_115_5 : decode (mB 115) 5 = .ok (.iconst 1, 1) := by decide +kernel
theorem dd_115_6 : decode (mB 115) 6 = .ok (.iadd, 1) := by decide +kernel
theorem dd_115_7 : decode (mB 115) 7 = .ok (.putfield 9, 3) := by decide +kernel
theorem dd_115_10 : decode (mB 115) 10 = .ok (.aload_n 0, 1) := by decide +kernel
theorem dd_115_11 : decode (mB 115) 11 = .ok (.getfield 15, 3) := by decide +kernel
theorem dd_115_14 : decode (mB 115) 14 = .ok (.ifCond .eq 4, 3) := by decide +kernel
theorem dd_115_17 : decode (mB 115) 17 = .ok (.return_, 1) := by decide +kernel
theorem dd_115_18 : decode (mB 115) 18 = .ok (.aload_n 0, 1) := by decide +kernel
theorem dd_115_19 : decode (mB 115) 19 = .ok (.iload_n 1, 1) := by decide +kernel
theorem dd_115_20 : decode (mB 115) 20 = .ok (.iload_n 2, 1) := by decide +kernel
theorem dd_115_21 : decode (mB 115) 21 = .ok (.iload_n 3, 1) := by decide +kernel
theorem dd_115_22 : decode (mB 115) 22 = .ok (.iconst 1, 1) := by decide +kernel
theorem dd_115_23 : decode (mB 115) 23 = .ok (.iadd, 1) := by decide +kernel
theorem dd_115_24 : decode (mB 115) 24 = .ok (.invokevirtual 24, 3) := by decide +kernel
theorem dd_115_27 : decode (mB 115) 27 = .ok (.aload_n 0, 1) := by decide +kernel
theorem dd_115_28 : decode (mB 115) 28 = .ok (.iload_n 2, 1) := by decide +kernel
theorem dd_115_29 : decode (mB 115) 29 = .ok (.iload_n 1, 1) := by decide +kernel
theorem dd_115_30 : decode (mB 115) 30 = .ok (.iconst 1, 1) := by decide +kernel
theorem dd_115_31 : decode (mB 115) 31 = .ok (.iload_n 3, 1) := by decide +kernel
theorem dd_115_32 : decode (mB 115) 32 = .ok (.isub, 1) := by decide +kernel
theorem dd_115_33 : decode (mB 115) 33 = .ok (.invokevirtual 24, 3) := by decide +kernel
theorem dd_115_36 : decode (mB 115) 36 = .ok (.iconst 0, 1) := by decide +kernel
theorem dd_115_37 : decode (mB 115) 37 = .ok (.istore 4, 2) := by decide +kernel
theorem dd_115_39 : decode (mB 115) 39 = .ok (.iload 4, 2) := by decide +kernel
theorem dd_115_41 : decode (mB 115) 41 = .ok (.bipush 8, 2) := by decide +kernel
theorem dd_115_43 : decode (mB 115) 43 = .ok (.if_icmp .ge 22, 3) := by decide +kernel
theorem dd_115_46 : decode (mB 115) 46 = .ok (.aload_n 0, 1) := by decide +kernel
theorem dd_115_47 : decode (mB 115) 47 = .ok (.getfield 15, 3) := by decide +kernel
theorem dd_115_50 : decode (mB 115) 50 = .ok (.ifCond .ne 15, 3) := by decide +kernel
theorem dd_115_53 : decode (mB 115) 53 = .ok (.aload_n 0, 1) := by decide +kernel
theorem dd_115_54 : decode (mB 115) 54 = .ok (.iload 4, 2) := by decide +kernel
theorem dd_115_56 : decode (mB 115) 56 = .ok (.invokevirtual 28, 3) := by decide +kernel
theorem dd_115_59 : decode (mB 115) 59 = .ok (.iinc 4 1, 3) := by decide +kernel
theorem dd_115_62 : decode (mB 115) 62 = .ok (.goto (-23), 3) := by decide +kernel
theorem dd_115_65 : decode (mB 115) 65 = .ok (.return_, 1) := by decide +kernel
theorem dd_116_0 : decode (mB 116) 0 = .ok (.iload_n 1, 1) := by decide +kernel
theorem dd_116_1 : decode (mB 116) 1 = .ok (.bipush 8, 2) := by decide +kernel
theorem dd_116_3 : decode (mB 116) 3 = .ok (.imul, 1) := by decide +kernel
theorem dd_116_4 : decode (mB 116) 4 = .ok (.iload_n 2, 1) := by decide +kernel
theorem dd_116_5 : decode (mB 116) 5 = .ok (.iadd, 1) := by decide +kernel
theorem dd_116_6 : decode (mB 116) 6 = .ok (.istore 4, 2) := by decide +kernel
theorem dd_116_8 : decode (mB 116) 8 = .ok (.iload 4, 2) := by decide +kernel
theorem dd_116_10 : decode (mB 116) 10 = .ok (.ifCond .lt 31, 3) := by decide +kernel
theorem dd_116_13 : decode (mB 116) 13 = .ok (.iload 4, 2) := by decide +kernel
theorem dd_116_15 : decode (mB 116) 15 = .ok (.aload_n 0, 1) := by decide +kernel
theorem dd_116_16 : decode (mB 116) 16 = .ok (.getfield 19, 3) := by decide +kernel
theorem dd_116_19 : decode (mB 116) 19 = .ok (.arraylength, 1) := by decide +kernel
theorem dd_116_20 : decode (mB 116) 20 = .ok (.if_icmp .ge 21, 3) := by decide +kernel
theorem dd_116_23 : decode (mB 116) 23 = .ok (.aload_n 0, 1) := by decide +kernel
theorem dd_116_24 : decode (mB 116) 24 = .ok (.getfield 19, 3) := by decide +kernel
theorem dd_116_27 : decode (mB 116) 27 = .ok (.iload 4, 2) := by decide +kernel
theorem dd_116_29 : decode (mB 116) 29 = .ok (.aload_n 0, 1) := by decide +kernel
theorem dd_116_30 : decode (mB 116) 30 = .ok (.getfield 19, 3) := by decide +kernel
theorem dd_116_33 : decode (mB 116) 33 = .ok (.iload 4, 2) := by decide +kernel
theorem dd_116_35 : decode (mB 116) 35 = .ok (.iaload, 1) := by decide +kernel
theorem dd_116_36 : decode (mB 116) 36 = .ok (.iload_n 3, 1) := by decide +kernel
theorem dd_116_37 : decode (mB 116) 37 = .ok (.invokestatic 32, 3) := by decide +kernel
theorem dd_116_40 : decode (mB 116) 40 = .ok (.iastore, 1) := by decide +kernel
theorem dd_116_41 : decode (mB 116) 41 = .ok (.return_, 1) := by decide +kernel
theorem dd_117_0 : decode (mB 117) 0 = .ok (.iconst 0, 1) := by decide +kernel
theorem dd_117_1 : decode (mB 117) 1 = .ok (.istore_n 2, 1) := by decide +kernel
theorem dd_117_2 : decode (mB 117) 2 = .ok (.iload_n 2, 1) := by decide +kernel
theorem dd_117_3 : decode (mB 117) 3 = .ok (.bipush 8, 2) := by decide +kernel
theorem dd_117_5 : decode (mB 117) 5 = .ok (.if_icmp .ge 74, 3) := by decide +kernel
theorem dd_117_8 : decode (mB 117) 8 = .ok (.iconst 0, 1) := by decide +kernel
theorem dd_117_9 : decode (mB 117) 9 = .ok (.istore_n 3, 1) := by decide +kernel
theorem dd_117_10 : decode (mB 117) 10 = .ok (.iload_n 3, 1) := by decide +kernel
theorem dd_117_11 : decode (mB 117) 11 = .ok (.bipush 8, 2) := by decide +kernel
theorem dd_117_13 : decode (mB 117) 13 = .ok (.if_icmp .ge 60, 3) := by decide +kernel
theorem dd_117_16 : decode (mB 117) 16 = .ok (.aload_n 0, 1) := by decide +kernel
theorem dd_117_17 : decode (mB 117) 17 = .ok (.getfield 19, 3) := by decide +kernel
theorem dd_117_20 : decode (mB 117) 20 = .ok (.iload_n 2, 1) := by decide +kernel
theorem dd_117_21 : decode (mB 117) 21 = .ok (.bipush 8, 2) := by decide +kernel
theorem dd_117_23 : decode (mB 117) 23 = .ok (.imul, 1) := by decide +kernel
theorem dd_117_24 : decode (mB 117) 24 = .ok (.iload_n 1, 1) := by decide +kernel
theorem dd_117_25 : decode (mB 117) 25 = .ok (.iadd, 1) := by decide +kernel
theorem dd_117_26 : decode (mB 117) 26 = .ok (.iaload, 1) := by decide +kernel
theorem dd_117_27 : decode (mB 117) 27 = .ok (.istore 4, 2) := by decide +kernel
theorem dd_117_29 : decode (mB 117) 29 = .ok (.aload_n 0, 1) := by decide +kernel
theorem dd_117_30 : decode (mB 117) 30 = .ok (.getfield 19, 3) := by decide +kernel
theorem dd_117_33 : decode (mB 117) 33 = .ok (.iload_n 1, 1) := by decide +kernel
theorem dd_117_34 : decode (mB 117) 34 = .ok (.bipush 8, 2) := by decide +kernel
theorem dd_117_36 : decode (mB 117) 36 = .ok (.imul, 1) := by decide +kernel
theorem dd_117_37 : decode (mB 117) 37 = .ok (.iload_n 3, 1) := by decide +kernel
theorem dd_117_38 : decode (mB 117) 38 = .ok (.iadd, 1) := by decide +kernel
theorem dd_117_39 : decode (mB 117) 39 = .ok (.iaload, 1) := by decide +kernel
theorem dd_117_40 : decode (mB 117) 40 = .ok (.istore 5, 2) := by decide +kernel
theorem dd_117_42 : decode (mB 117) 42 = .ok (.iload 4, 2) := by decide +kernel
theorem dd_117_44 : decode (mB 117) 44 = .ok (.ldc 23, 2) := by decide +kernel
theorem dd_117_46 : decode (mB 117) 46 = .ok (.if_icmp .ge 21, 3) := by decide +kernel
theorem dd_117_49 : decode (mB 117) 49 = .ok (.iload 5, 2) := by decide +kernel
theorem dd_117_51 : decode (mB 117) 51 = .ok (.ldc 23, 2) := by decide +kernel
theorem dd_117_53 : decode (mB 117) 53 = .ok (.if_icmp .ge 14, 3) := by decide +kernel
theorem dd_117_56 : decode (mB 117) 56 = .ok (.aload_n 0, 1) := by decide +kernel
theorem dd_117_57 : decode (mB 117) 57 = .ok (.iload_n 2, 1) := by decide +kernel
theorem dd_117_58 : decode (mB 117) 58 = .ok (.iload_n 3, 1) := by decide +kernel
theorem dd_117_59 : decode (mB 117) 59 = .ok (.iload 4, 2) := by decide +kernel
theorem dd_117_61 : decode (mB 117) 61 = .ok (.iload 5, 2) := by decide +kernel
theorem dd_117_63 : decode (mB 117) 63 = .ok (.iadd, 1) := by decide +kernel
theorem dd_117_64 : decode (mB 117) 64 = .ok (.invokevirtual 24, 3) := by decide +kernel
theorem dd_117_67 : decode (mB 117) 67 = .ok (.iinc 3 1, 3) := by decide +kernel
theorem dd_117_70 : decode (mB 117) 70 = .ok (.goto (-60), 3) := by decide +kernel
theorem dd_117_73 : decode (mB 117) 73 = .ok (.iinc 2 1, 3) := by decide +kernel
theorem dd_117_76 : decode (mB 117) 76 = .ok (.goto (-74), 3) := by decide +kernel
theorem dd_117_79 : decode (mB 117) 79 = .ok (.iconst 0, 1) := by decide +kernel
theorem dd_117_80 : decode (mB 117) 80 = .ok (.istore_n 2, 1) := by decide +kernel
theorem dd_117_81 : decode (mB 117) 81 = .ok (.iload_n 2, 1) := by decide +kernel
theorem dd_117_82 : decode (mB 117) 82 = .ok (.bipush 8, 2) := by decide +kernel
theorem dd_117_84 : decode (mB 117) 84 = .ok (.if_icmp .ge 37, 3) := by decide +kernel
theorem dd_117_87 : decode (mB 117) 87 = .ok (.aload_n 0, 1) := by decide +kernel
theorem dd_117_88 : decode (mB 117) 88 = .ok (.dup, 1) := by decide +kernel
theorem dd_117_89 : decode (mB 117) 89 = .ok (.getfield 15, 3) := by decide +kernel
theorem dd_117_92 : decode (mB 117) 92 = .ok (.aload_n 0, 1) := by decide +kernel
theorem dd_117_93 : decode (mB 117) 93 = .ok (.getfield 19, 3) := by decide +kernel
theorem dd_117_96 : decode (mB 117) 96 = .ok (.iload_n 2, 1) := by decide +kernel
theorem dd_117_97 : decode (mB 117) 97 = .ok (.bipush 8, 2) := by decide +kernel
theorem dd_117_99 : decode (mB 117) 99 = .ok (.imul, 1) := by decide +kernel
theorem dd_117_100 : decode (mB 117) 100 = .ok (.iload_n 2, 1) := by decide +kernel
theorem dd_117_101 : decode (mB 117) 101 = .ok (.iadd, 1) := by decide +kernel
theorem dd_117_102 : decode (mB 117) 102 = .ok (.iaload, 1) := by decide +kernel
theorem dd_117_103 : decode (mB 117) 103 = .ok (.ifCond .gt 7, 3) := by decide +kernel
theorem dd_117_106 : decode (mB 117) 106 = .ok (.iconst 1, 1) := by decide +kernel
theorem dd_117_107 : decode (mB 117) 107 = .ok (.goto 4, 3) := by decide +kernel
theorem dd_117_110 : decode (mB 117) 110 = .ok (.iconst 0, 1) := by decide +kernel
theorem dd_117_111 : decode (mB 117) 111 = .ok (.ior, 1) := by decide +kernel
theorem dd_117_112 : decode (mB 117) 112 = .ok (.putfield 15, 3) := by decide +kernel
theorem dd_117_115 : decode (mB 117) 115 = .ok (.iinc 2 1, 3) := by decide +kernel
theorem dd_117_118 : decode (mB 117) 118 = .ok (.goto (-37), 3) := by decide +kernel
theorem dd_117_121 : decode (mB 117) 121 = .ok (.return_, 1) := by decide +kernel
theorem dd_118_0 : decode (mB 118) 0 = .ok (.iload_n 1, 1) := by decide +kernel
theorem dd_118_1 : decode (mB 118) 1 = .ok (.invokestatic 83, 3) := by decide +kernel
theorem dd_118_4 : decode (mB 118) 4 = .ok (.ifCond .eq 10, 3) := by decide +kernel
theorem dd_118_7 : decode (mB 118) 7 = .ok (.iload_n 2, 1) := by decide +kernel
theorem dd_118_8 : decode (mB 118) 8 = .ok (.invokestatic 83, 3) := by decide +kernel
theorem dd_118_11 : decode (mB 118) 11 = .ok (.ifCond .ne 6, 3) := by decide +kernel
theorem dd_118_14 : decode (mB 118) 14 = .ok (.ldc 87, 2) := by decide +kernel
theorem dd_118_16 : decode (mB 118) 16 = .ok (.ireturn, 1) := by decide +kernel
theorem dd_118_17 : decode (mB 118) 17 = .ok (.iload_n 3, 1) := by decide +kernel
theorem dd_118_18 : decode (mB 118) 18 = .ok (.iconst 0, 1) := by decide +kernel
theorem dd_118_19 : decode (mB 118) 19 = .ok (.iconst 2, 1) := by decide +kernel
theorem dd_118_20 : decode (mB 118) 20 = .ok (.invokestatic 88, 3) := by decide +kernel
theorem dd_118_23 : decode (mB 118) 23 = .ok (.ifCond .ne 6, 3) := by decide +kernel
theorem dd_118_26 : decode (mB 118) 26 = .ok (.ldc 92, 2) := by decide +kernel
theorem dd_118_28 : decode (mB 118) 28 = .ok (.ireturn, 1) := by decide +kernel
theorem dd_118_29 : decode (mB 118) 29 = .ok (.aload_n 0, 1) := by decide +kernel
theorem dd_118_30 : decode (mB 118) 30 = .ok (.getfield 62, 3) := by decide +kernel
theorem dd_118_33 : decode (mB 118) 33 = .ok (.iload_n 1, 1) := by decide +kernel
theorem dd_118_34 : decode (mB 118) 34 = .ok (.iload_n 2, 1) := by decide +kernel
theorem dd_118_35 : decode (mB 118) 35 = .ok (.invokevirtual 320, 3) := by decide +kernel
theorem dd_118_38 : decode (mB 118) 38 = .ok (.istore 4, 2) := by decide +kernel
theorem dd_118_40 : decode (mB 118) 40 = .ok (.iload_n 3, 1) := by decide +kernel
theorem dd_118_41 : decode (mB 118) 41 = .ok (.iconst 2, 1) := by decide +kernel
theorem dd_118_42 : decode (mB 118) 42 = .ok (.if_icmp .ne 29, 3) := by decide +kernel
theorem dd_118_45 : decode (mB 118) 45 = .ok (.aload_n 0, 1) := by decide +kernel
theorem dd_118_46 : decode (mB 118) 46 = .ok (.getfield 62, 3) := by decide +kernel
theorem dd_118_49 : decode (mB 118) 49 = .ok (.getfield 324, 3) := by decide +kernel
theorem dd_118_52 : decode (mB 118) 52 = .ok (.ifCond .eq 8, 3) := by decide +kernel
theorem dd_118_55 : decode (mB 118) 55 = .ok (.bipush (-2), 2) := by decide +kernel
theorem dd_118_57 : decode (mB 118) 57 = .ok (.goto 13, 3) := by decide +kernel
theorem dd_118_60 : decode (mB 118) 60 = .ok (.iload 4, 2) := by decide +kernel
theorem dd_118_62 : decode (mB 118) 62 = .ok (.ifCond .eq 7, 3) := by decide +kernel
theorem dd_118_65 : decode (mB 118) 65 = .ok (.iconst 1, 1) := by decide +kernel
theorem dd_118_66 : decode (mB 118) 66 = .ok (.goto 4, 3) := by decide +kernel
theorem dd_118_69 : decode (mB 118) 69 = .ok (.iconst 0, 1) := by decide +kernel
theorem dd_118_70 : decode (mB 118) 70 = .ok (.ireturn, 1) := by decide +kernel
theorem dd_118_71 : decode (mB 118) 71 = .ok (.iload 4, 2) := by decide +kernel
theorem dd_118_73 : decode (mB 118) 73 = .ok (.ifCond .eq 13, 3) := by decide +kernel
theorem dd_118_76 : decode (mB 118) 76 = .ok (.aload_n 0, 1) := by decide +kernel
theorem dd_118_77 : decode (mB 118) 77 = .ok (.getfield 62, 3) := by decide +kernel
theorem dd_118_80 : decode (mB 118) 80 = .ok (.getfield 324, 3) := by decide +kernel
theorem dd_118_83 : decode (mB 118) 83 = .ok (.ifCond .eq 6, 3) := by decide +kernel
theorem dd_118_86 : decode (mB 118) 86 = .ok (.ldc 169, 2) := by decide +kernel
theorem dd_118_88 : decode (mB 118) 88 = .ok (.ireturn, 1) := by decide +kernel
theorem dd_118_89 : decode (mB 118) 89 = .ok (.iload_n 3, 1) := by decide +kernel
theorem dd_118_90 : decode (mB 118) 90 = .ok (.ifCond .ne 16, 3) := by decide +kernel
theorem dd_118_93 : decode (mB 118) 93 = .ok (.aload_n 0, 1) := by decide +kernel
theorem dd_118_94 : decode (mB 118) 94 = .ok (.getfield 62, 3) := by decide +kernel
theorem dd_118_97 : decode (mB 118) 97 = .ok (.iload_n 2, 1) := by decide +kernel
theorem dd_118_98 : decode (mB 118) 98 = .ok (.iload_n 1, 1) := by decide +kernel
theorem dd_118_99 : decode (mB 118) 99 = .ok (.invokevirtual 327, 3) := by decide +kernel
theorem dd_118_102 : decode (mB 118) 102 = .ok (.ineg, 1) := by decide +kernel
theorem dd_118_103 : decode (mB 118) 103 = .ok (.goto 12, 3) := by decide +kernel
theorem dd_118_106 : decode (mB 118) 106 = .ok (.aload_n 0, 1) := by decide +kernel
theorem dd_118_107 : decode (mB 118) 107 = .ok (.getfield 62, 3) := by decide +kernel
theorem dd_118_110 : decode (mB 118) 110 = .ok (.iload_n 1, 1) := by decide +kernel
theorem dd_118_111 : decode (mB 118) 111 = .ok (.iload_n 2, 1) := by decide +kernel
theorem dd_118_112 : decode (mB 118) 112 = .ok (.invokevirtual 327, 3) := by decide +kernel
theorem dd_118_115 : decode (mB 118) 115 = .ok (.ireturn, 1) := by decide +kernel
theorem dd_119_0 : decode (mB 119) 0 = .ok (.iload_n 1, 1) := by decide +kernel
theorem dd_119_1 : decode (mB 119) 1 = .ok (.iload_n 2, 1) := by decide +kernel
theorem dd_119_2 : decode (mB 119) 2 = .ok (.if_icmp .eq 14, 3) := by decide +kernel
theorem dd_119_5 : decode (mB 119) 5 = .ok (.aload_n 0, 1) := by decide +kernel
theorem dd_119_6 : decode (mB 119) 6 = .ok (.iload_n 1, 1) := by decide +kernel
theorem dd_119_7 : decode (mB 119) 7 = .ok (.iload_n 2, 1) := by decide +kernel
theorem dd_119_8 : decode (mB 119) 8 = .ok (.invokevirtual 38, 3) := by decide +kernel
theorem dd_119_11 : decode (mB 119) 11 = .ok (.ldc 23, 2) := by decide +kernel
theorem dd_119_13 : decode (mB 119) 13 = .ok (.if_icmp .ge 7, 3) := by decide +kernel
theorem dd_119_16 : decode (mB 119) 16 = .ok (.iconst 1, 1) := by decide +kernel
theorem dd_119_17 : decode (mB 119) 17 = .ok (.goto 4, 3) := by decide +kernel
theorem dd_119_20 : decode (mB 119) 20 = .ok (.iconst 0, 1) := by decide +kernel
theorem dd_119_21 : decode (mB 119) 21 = .ok (.ireturn, 1) := by decide +kernel
theorem dd_120_0 : decode (mB 120) 0 = .ok (.iload_n 1, 1) := by decide +kernel
theorem dd_120_1 : decode (mB 120) 1 = .ok (.bipush 8, 2) := by decide +kernel
theorem dd_120_3 : decode (mB 120) 3 = .ok (.imul, 1) := by decide +kernel
theorem dd_120_4 : decode (mB 120) 4 = .ok (.iload_n 2, 1) := by decide +kernel
theorem dd_120_5 : decode (mB 120) 5 = .ok (.iadd, 1) := by decide +kernel
theorem dd_120_6 : decode (mB 120) 6 = .ok (.istore_n 3, 1) := by decide +kernel
theorem dd_120_7 : decode (mB 120) 7 = .ok (.iload_n 1, 1) := by decide +kernel
theorem dd_120_8 : decode (mB 120) 8 = .ok (.iload_n 2, 1) := by decide +kernel
theorem dd_120_9 : decode (mB 120) 9 = .ok (.if_icmp .eq 16, 3) := by decide +kernel
theorem dd_120_12 : decode (mB 120) 12 = .ok (.iload_n 3, 1) := by decide +kernel
theorem dd_120_13 : decode (mB 120) 13 = .ok (.ifCond .lt 12, 3) := by decide +kernel
theorem dd_120_16 : decode (mB 120) 16 = .ok (.iload_n 3, 1) := by decide +kernel
theorem dd_120_17 : decode (mB 120) 17 = .ok (.aload_n 0, 1) := by decide +kernel
theorem dd_120_18 : decode (mB 120) 18 = .ok (.getfield 19, 3) := by decide +kernel
theorem dd_120_21 : decode (mB 120) 21 = .ok (.arraylength, 1) := by decide +kernel
theorem dd_120_22 : decode (mB 120) 22 = .ok (.if_icmp .lt 5, 3) := by decide +kernel
theorem dd_120_25 : decode (mB 120) 25 = .ok (.iconst 1, 1) := by decide +kernel
theorem dd_120_26 : decode (mB 120) 26 = .ok (.ireturn, 1) := by decide +kernel
theorem dd_120_27 : decode (mB 120) 27 = .ok (.aload_n 0, 1) := by decide +kernel
theorem dd_120_28 : decode (mB 120) 28 = .ok (.getfield 19, 3) := by decide +kernel
theorem dd_120_31 : decode (mB 120) 31 = .ok (.iload_n 3, 1) := by decide +kernel
theorem dd_120_32 : decode (mB 120) 32 = .ok (.iaload, 1) := by decide +kernel
theorem dd_120_33 : decode (mB 120) 33 = .ok (.ireturn, 1) := by decide +kernel
theorem dd_121_0 : decode (mB 121) 0 = .ok (.iload_n 1, 1) := by decide +kernel
theorem dd_121_1 : decode (mB 121) 1 = .ok (.iconst 0, 1) := by decide +kernel
theorem dd_121_2 : decode (mB 121) 2 = .ok (.bipush 11, 2) := by decide +kernel
theorem dd_121_4 : decode (mB 121) 4 = .ok (.invokestatic 88, 3) := by decide +kernel
theorem dd_121_7 : decode (mB 121) 7 = .ok (.ifCond .eq 13, 3) := by decide +kernel
theorem dd_121_10 : decode (mB 121) 10 = .ok (.iload_n 2, 1) := by decide +kernel
theorem dd_121_11 : decode (mB 121) 11 = .ok (.iconst 0, 1) := by decide +kernel
theorem dd_121_12 : decode (mB 121) 12 = .ok (.bipush 9, 2) := by decide +kernel
theorem dd_121_14 : decode (mB 121) 14 = .ok (.invokestatic 88, 3) := by decide +kernel
theorem dd_121_17 : decode (mB 121) 17 = .ok (.ifCond .ne 6, 3) := by decide +kernel
theorem dd_121_20 : decode (mB 121) 20 = .ok (.ldc 92, 2) := by decide +kernel
theorem dd_121_22 : decode (mB 121) 22 = .ok (.ireturn, 1) := by decide +kernel
theorem dd_121_23 : decode (mB 121) 23 = .ok (.aload_n 0, 1) := by decide +kernel
theorem dd_121_24 : decode (mB 121) 24 = .ok (.getfield 69, 3) := by decide +kernel
theorem dd_121_27 : decode (mB 121) 27 = .ok (.getfield 330, 3) := by decide +kernel
theorem dd_121_30 : decode (mB 121) 30 = .ok (.iload_n 1, 1) := by decide +kernel
theorem dd_121_31 : decode (mB 121) 31 = .ok (.iaload, 1) := by decide +kernel
theorem dd_121_32 : decode (mB 121) 32 = .ok (.istore_n 3, 1) := by decide +kernel
theorem dd_121_33 : decode (mB 121) 33 = .ok (.aload_n 0, 1) := by decide +kernel
theorem dd_121_34 : decode (mB 121) 34 = .ok (.getfield 69, 3) := by decide +kernel
theorem dd_121_37 : decode (mB 121) 37 = .ok (.getfield 330, 3) := by decide +kernel
theorem dd_121_40 : decode (mB 121) 40 = .ok (.iload_n 1, 1) := by decide +kernel
theorem dd_121_41 : decode (mB 121) 41 = .ok (.iload_n 2, 1) := by decide +kernel
theorem dd_121_42 : decode (mB 121) 42 = .ok (.iastore, 1) := by decide +kernel
theorem dd_121_43 : decode (mB 121) 43 = .ok (.iload_n 3, 1) := by decide +kernel
theorem dd_121_44 : decode (mB 121) 44 = .ok (.ireturn, 1) := by decide +kernel
theorem dd_122_0 : decode (mB 122) 0 = .ok (.iload_n 1, 1) := by decide +kernel
theorem dd_122_1 : decode (mB 122) 1 = .ok (.iconst (-1), 1) := by decide +kernel
theorem dd_122_2 : decode (mB 122) 2 = .ok (.bipush 8, 2) := by decide +kernel
theorem dd_122_4 : decode (mB 122) 4 = .ok (.invokestatic 88, 3) := by decide +kernel
theorem dd_122_7 : decode (mB 122) 7 = .ok (.ifCond .ne 6, 3) := by decide +kernel
theorem dd_122_10 : decode (mB 122) 10 = .ok (.ldc 92, 2) := by decide +kernel
theorem dd_122_12 : decode (mB 122) 12 = .ok (.ireturn, 1) := by decide +kernel
theorem dd_122_13 : decode (mB 122) 13 = .ok (.aload_n 0, 1) := by decide +kernel
theorem dd_122_14 : decode (mB 122) 14 = .ok (.getfield 69, 3) := by decide +kernel
theorem dd_122_17 : decode (mB 122) 17 = .ok (.invokevirtual 333, 3) := by decide +kernel
theorem dd_122_20 : decode (mB 122) 20 = .ok (.iload_n 1, 1) := by decide +kernel
theorem dd_122_21 : decode (mB 122) 21 = .ok (.iconst (-1), 1) := by decide +kernel
theorem dd_122_22 : decode (mB 122) 22 = .ok (.if_icmp .ne 13, 3) := by decide +kernel
theorem dd_122_25 : decode (mB 122) 25 = .ok (.aload_n 0, 1) := by decide +kernel
theorem dd_122_26 : decode (mB 122) 26 = .ok (.getfield 69, 3) := by decide +kernel
theorem dd_122_29 : decode (mB 122) 29 = .ok (.invokevirtual 336, 3) := by decide +kernel
theorem dd_122_32 : decode (mB 122) 32 = .ok (.goto 12, 3) := by decide +kernel
theorem dd_122_35 : decode (mB 122) 35 = .ok (.aload_n 0, 1) := by decide +kernel
theorem dd_122_36 : decode (mB 122) 36 = .ok (.getfield 69, 3) := by decide +kernel
theorem dd_122_39 : decode (mB 122) 39 = .ok (.getfield 339, 3) := by decide +kernel
theorem dd_122_42 : decode (mB 122) 42 = .ok (.iload_n 1, 1) := by decide +kernel
theorem dd_122_43 : decode (mB 122) 43 = .ok (.iaload, 1) := by decide +kernel
theorem dd_122_44 : decode (mB 122) 44 = .ok (.ireturn, 1) := by decide +kernel
theorem dd_123_0 : decode (mB 123) 0 = .ok (.iconst 0, 1) := by decide +kernel
theorem dd_123_1 : decode (mB 123) 1 = .ok (.istore_n 1, 1) := by decide +kernel
theorem dd_123_2 : decode (mB 123) 2 = .ok (.iload_n 1, 1) := by decide +kernel
theorem dd_123_3 : decode (mB 123) 3 = .ok (.bipush 9, 2) := by decide +kernel
theorem dd_123_5 : decode (mB 123) 5 = .ok (.if_icmp .ge 16, 3) := by decide +kernel
theorem dd_123_8 : decode (mB 123) 8 = .ok (.aload_n 0, 1) := by decide +kernel
theorem dd_123_9 : decode (mB 123) 9 = .ok (.getfield 15, 3) := by decide +kernel
theorem dd_123_12 : decode (mB 123) 12 = .ok (.iload_n 1, 1) := by decide +kernel
theorem dd_123_13 : decode (mB 123) 13 = .ok (.iconst 0, 1) := by decide +kernel
theorem dd_123_14 : decode (mB 123) 14 = .ok (.iastore, 1) := by decide +kernel
theorem dd_123_15 : decode (mB 123) 15 = .ok (.iinc 1 1, 3) := by decide +kernel
theorem dd_123_18 : decode (mB 123) 18 = .ok (.goto (-16), 3) := by decide +kernel
theorem dd_123_21 : decode (mB 123) 21 = .ok (.iconst 0, 1) := by decide +kernel
theorem dd_123_22 : decode (mB 123) 22 = .ok (.istore_n 1, 1) := by decide +kernel
theorem dd_123_23 : decode (mB 123) 23 = .ok (.iload_n 1, 1) := by decide +kernel
theorem dd_123_24 : decode (mB 123) 24 = .ok (.bipush 12, 2) := by decide +kernel
theorem dd_123_26 : decode (mB 123) 26 = .ok (.if_icmp .ge 41, 3) := by decide +kernel
theorem dd_123_29 : decode (mB 123) 29 = .ok (.aload_n 0, 1) := by decide +kernel
theorem dd_123_30 : decode (mB 123) 30 = .ok (.getfield 9, 3) := by decide +kernel
theorem dd_123_33 : decode (mB 123) 33 = .ok (.iload_n 1, 1) := by decide +kernel
theorem dd_123_34 : decode (mB 123) 34 = .ok (.iaload, 1) := by decide +kernel
theorem dd_123_35 : decode (mB 123) 35 = .ok (.aload_n 0, 1) := by decide +kernel
theorem dd_123_36 : decode (mB 123) 36 = .ok (.iload_n 1, 1) := by decide +kernel
theorem dd_123_37 : decode (mB 123) 37 = .ok (.invokevirtual 18, 3) := by decide +kernel
theorem dd_123_40 : decode (mB 123) 40 = .ok (.isub, 1) := by decide +kernel
theorem dd_123_41 : decode (mB 123) 41 = .ok (.istore_n 2, 1) := by decide +kernel
theorem dd_123_42 : decode (mB 123) 42 = .ok (.iload_n 2, 1) := by decide +kernel
theorem dd_123_43 : decode (mB 123) 43 = .ok (.ifCond .le 18, 3) := by decide +kernel
theorem dd_123_46 : decode (mB 123) 46 = .ok (.aload_n 0, 1) := by decide +kernel
theorem dd_123_47 : decode (mB 123) 47 = .ok (.getfield 15, 3) := by decide +kernel
theorem dd_123_50 : decode (mB 123) 50 = .ok (.iload_n 1, 1) := by decide +kernel
theorem dd_123_51 : decode (mB 123) 51 = .ok (.bipush 8, 2) := by decide +kernel
theorem dd_123_53 : decode (mB 123) 53 = .ok (.invokestatic 22, 3) := by decide +kernel
theorem dd_123_56 : decode (mB 123) 56 = .ok (.dup2, 1) := by decide +kernel
theorem dd_123_57 : decode (mB 123) 57 = .ok (.iaload, 1) := by decide +kernel
theorem dd_123_58 : decode (mB 123) 58 = .ok (.iload_n 2, 1) := by decide +kernel
theorem dd_123_59 : decode (mB 123) 59 = .ok (.iadd, 1) := by decide +kernel
theorem dd_123_60 : decode (mB 123) 60 = .ok (.iastore, 1) := by decide +kernel
theorem dd_123_61 : decode (mB 123) 61 = .ok (.iinc 1 1, 3) := by decide +kernel
theorem dd_123_64 : decode (mB 123) 64 = .ok (.goto (-41), 3) := by decide +kernel
theorem dd_123_67 : decode (mB 123) 67 = .ok (.return_, 1) := by decide +kernel
theorem dd_124_0 : decode (mB 124) 0 = .ok (.iconst 0, 1) := by decide +kernel
theorem dd_124_1 : decode (mB 124) 1 = .ok (.istore_n 2, 1) := by decide +kernel
theorem dd_124_2 : decode (mB 124) 2 = .ok (.iconst 0, 1) := by decide +kernel
theorem dd_124_3 : decode (mB 124) 3 = .ok (.iload_n 1, 1) := by decide +kernel
theorem dd_124_4 : decode (mB 124) 4 = .ok (.iconst 3, 1) := by decide +kernel
theorem dd_124_5 : decode (mB 124) 5 = .ok (.isub, 1) := by decide +kernel
theorem dd_124_6 : decode (mB 124) 6 = .ok (.invokestatic 28, 3) := by decide +kernel
theorem dd_124_9 : decode (mB 124) 9 = .ok (.istore_n 3, 1) := by decide +kernel
theorem dd_124_10 : decode (mB 124) 10 = .ok (.iload_n 3, 1) := by decide +kernel
theorem dd_124_11 : decode (mB 124) 11 = .ok (.iload_n 1, 1) := by decide +kernel
theorem dd_124_12 : decode (mB 124) 12 = .ok (.if_icmp .gt 24, 3) := by decide +kernel
theorem dd_124_15 : decode (mB 124) 15 = .ok (.iload_n 3, 1) := by decide +kernel
theorem dd_124_16 : decode (mB 124) 16 = .ok (.bipush 9, 2) := by decide +kernel
theorem dd_124_18 : decode (mB 124) 18 = .ok (.if_icmp .ge 18, 3) := by decide +kernel
theorem dd_124_21 : decode (mB 124) 21 = .ok (.iload_n 2, 1) := by decide +kernel
theorem dd_124_22 : decode (mB 124) 22 = .ok (.aload_n 0, 1) := by decide +kernel
theorem dd_124_23 : decode (mB 124) 23 = .ok (.getfield 15, 3) := by decide +kernel
theorem dd_124_26 : decode (mB 124) 26 = .ok (.iload_n 3, 1) := by decide +kernel
theorem dd_124_27 : decode (mB 124) 27 = .ok (.iaload, 1) := by decide +kernel
theorem dd_124_28 : decode (mB 124) 28 = .ok (.iadd, 1) := by decide +kernel
theorem dd_124_29 : decode (mB 124) 29 = .ok (.istore_n 2, 1) := by decide +kernel
theorem dd_124_30 : decode (mB 124) 30 = .ok (.iinc 3 1, 3) := by decide +kernel
theorem dd_124_33 : decode (mB 124) 33 = .ok (.goto (-23), 3) := by decide +kernel
theorem dd_124_36 : decode (mB 124) 36 = .ok (.iload_n 2, 1) := by decide +kernel
theorem dd_124_37 : decode (mB 124) 37 = .ok (.ireturn, 1) := by decide +kernel
theorem dd_125_0 : decode (mB 125) 0 = .ok (.iconst 0, 1) := by decide +kernel
theorem dd_125_1 : decode (mB 125) 1 = .ok (.istore_n 1, 1) := by decide +kernel
theorem dd_125_2 : decode (mB 125) 2 = .ok (.iconst 0, 1) := by decide +kernel
theorem dd_125_3 : decode (mB 125) 3 = .ok (.istore_n 2, 1) := by decide +kernel
theorem dd_125_4 : decode (mB 125) 4 = .ok (.iload_n 2, 1) := by decide +kernel
theorem dd_125_5 : decode (mB 125) 5 = .ok (.bipush 9, 2) := by decide +kernel
theorem dd_125_7 : decode (mB 125) 7 = .ok (.if_icmp .ge 18, 3) := by decide +kernel
theorem dd_125_10 : decode (mB 125) 10 = .ok (.iload_n 1, 1) := by decide +kernel
theorem dd_125_11 : decode (mB 125) 11 = .ok (.aload_n 0, 1) := by decide +kernel
theorem dd_125_12 : decode (mB 125) 12 = .ok (.getfield 15, 3) := by decide +kernel
theorem dd_125_15 : decode (mB 125) 15 = .ok (.iload_n 2, 1) := by decide +kernel
theorem dd_125_16 : decode (mB 125) 16 = .ok (.iaload, 1) := by decide +kernel
theorem dd_125_17 : decode (mB 125) 17 = .ok (.iadd, 1) := by decide +kernel
theorem dd_125_18 : decode (mB 125) 18 = .ok (.istore_n 1, 1) := by decide +kernel
theorem dd_125_19 : decode (mB 125) 19 = .ok (.iinc 2 1, 3) := by decide +kernel
theorem dd_125_22 : decode (mB 125) 22 = .ok (.goto (-18), 3) := by decide +kernel
theorem dd_125_25 : decode (mB 125) 25 = .ok (.iload_n 1, 1) := by decide +kernel
theorem dd_125_26 : decode (mB 125) 26 = .ok (.ireturn, 1) := by decide +kernel
theorem dd_126_0 : decode (mB 126) 0 = .ok (.iload_n 1, 1) := by decide +kernel
theorem dd_126_1 : decode (mB 126) 1 = .ok (.iconst 0, 1) := by decide +kernel
theorem dd_126_2 : decode (mB 126) 2 = .ok (.iconst 1, 1) := by decide +kernel
theorem dd_126_3 : decode (mB 126) 3 = .ok (.aload_n 0, 1) := by decide +kernel
theorem dd_126_4 : decode (mB 126) 4 = .ok (.getfield 30, 3) := by decide +kernel
theorem dd_126_7 : decode (mB 126) 7 = .ok (.getfield 150, 3) := by decide +kernel
theorem dd_126_10 : decode (mB 126) 10 = .ok (.ishl, 1) := by decide +kernel
theorem dd_126_11 : decode (mB 126) 11 = .ok (.iconst 1, 1) := by decide +kernel
theorem dd_126_12 : decode (mB 126) 12 = .ok (.isub, 1) := by decide +kernel
theorem dd_126_13 : decode (mB 126) 13 = .ok (.invokestatic 88, 3) := by decide +kernel
theorem dd_126_16 : decode (mB 126) 16 = .ok (.ifCond .eq 22, 3) := by decide +kernel
theorem dd_126_19 : decode (mB 126) 19 = .ok (.iload_n 2, 1) := by decide +kernel
theorem dd_126_20 : decode (mB 126) 20 = .ok (.iconst 0, 1) := by decide +kernel
theorem dd_126_21 : decode (mB 126) 21 = .ok (.iconst 1, 1) := by decide +kernel
theorem dd_126_22 : decode (mB 126) 22 = .ok (.aload_n 0, 1) := by decide +kernel
theorem dd_126_23 : decode (mB 126) 23 = .ok (.getfield 12, 3) := by decide +kernel
theorem dd_126_26 : decode (mB 126) 26 = .ok (.getfield 154, 3) := by decide +kernel
theorem dd_126_29 : decode (mB 126) 29 = .ok (.ishl, 1) := by decide +kernel
theorem dd_126_30 : decode (mB 126) 30 = .ok (.iconst 1, 1) := by decide +kernel
theorem dd_126_31 : decode (mB 126) 31 = .ok (.isub, 1) := by decide +kernel
theorem dd_126_32 : decode (mB 126) 32 = .ok (.invokestatic 88, 3) := by decide +kernel
theorem dd_126_35 : decode (mB 126) 35 = .ok (.ifCond .ne 6, 3) := by decide +kernel
theorem dd_126_38 : decode (mB 126) 38 = .ok (.ldc 87, 2) := by decide +kernel
theorem dd_126_40 : decode (mB 126) 40 = .ok (.ireturn, 1) := by decide +kernel
theorem dd_126_41 : decode (mB 126) 41 = .ok (.iload_n 3, 1) := by decide +kernel
theorem dd_126_42 : decode (mB 126) 42 = .ok (.iconst 0, 1) := by decide +kernel
theorem dd_126_43 : decode (mB 126) 43 = .ok (.iconst 4, 1) := by decide +kernel
theorem dd_126_44 : decode (mB 126) 44 = .ok (.invokestatic 88, 3) := by decide +kernel
theorem dd_126_47 : decode (mB 126) 47 = .ok (.ifCond .ne 6, 3) := by decide +kernel
theorem dd_126_50 : decode (mB 126) 50 = .ok (.ldc 92, 2) := by decide +kernel
theorem dd_126_52 : decode (mB 126) 52 = .ok (.ireturn, 1) := by decide +kernel
theorem dd_126_53 : decode (mB 126) 53 = .ok (.aload_n 0, 1) := by decide +kernel
theorem dd_126_54 : decode (mB 126) 54 = .ok (.getfield 73, 3) := by decide +kernel
theorem dd_126_57 : decode (mB 126) 57 = .ok (.aload_n 0, 1) := by decide +kernel
theorem dd_126_58 : decode (mB 126) 58 = .ok (.getfield 55, 3) := by decide +kernel
theorem dd_126_61 : decode (mB 126) 61 = .ok (.iload_n 1, 1) := by decide +kernel
theorem dd_126_62 : decode (mB 126) 62 = .ok (.aload_n 0, 1) := by decide +kernel
theorem dd_126_63 : decode (mB 126) 63 = .ok (.getfield 12, 3) := by decide +kernel
theorem dd_126_66 : decode (mB 126) 66 = .ok (.invokevirtual 104, 3) := by decide +kernel
theorem dd_126_69 : decode (mB 126) 69 = .ok (.iload_n 2, 1) := by decide +kernel
theorem dd_126_70 : decode (mB 126) 70 = .ok (.bipush 16, 2) := by decide +kernel
theorem dd_126_72 : decode (mB 126) 72 = .ok (.ishl, 1) := by decide +kernel
theorem dd_126_73 : decode (mB 126) 73 = .ok (.ior, 1) := by decide +kernel
theorem dd_126_74 : decode (mB 126) 74 = .ok (.invokevirtual 342, 3) := by decide +kernel
theorem dd_126_77 : decode (mB 126) 77 = .ok (.iload_n 3, 1) := by decide +kernel
theorem dd_126_78 : decode (mB 126) 78 = .ok (.tableswitch 64 0 3 #[30, 38, 47, 56], 30) := by decide +kernel
theorem dd_126_108 : decode (mB 126) 108 = .ok (.aload_n 0, 1) := by decide +kernel
theorem dd_126_109 : decode (mB 126) 109 = .ok (.getfield 73, 3) := by decide +kernel
theorem dd_126_112 : decode (mB 126) 112 = .ok (.invokevirtual 160, 3) := by decide +kernel
theorem dd_126_115 : decode (mB 126) 115 = .ok (.ireturn, 1) := by decide +kernel
theorem dd_126_116 : decode (mB 126) 116 = .ok (.aload_n 0, 1) := by decide +kernel
theorem dd_126_117 : decode (mB 126) 117 = .ok (.getfield 73, 3) := by decide +kernel
theorem dd_126_120 : decode (mB 126) 120 = .ok (.iconst 3, 1) := by decide +kernel
theorem dd_126_121 : decode (mB 126) 121 = .ok (.invokevirtual 166, 3) := by decide +kernel
theorem dd_126_124 : decode (mB 126) 124 = .ok (.ireturn, 1) := by decide +kernel
theorem dd_126_125 : decode (mB 126) 125 = .ok (.aload_n 0, 1) := by decide +kernel
theorem dd_126_126 : decode (mB 126) 126 = .ok (.getfield 73, 3) := by decide +kernel
theorem dd_126_129 : decode (mB 126) 129 = .ok (.iconst 4, 1) := by decide +kernel
theorem dd_126_130 : decode (mB 126) 130 = .ok (.invokevirtual 166, 3) := by decide +kernel
theorem dd_126_133 : decode (mB 126) 133 = .ok (.ireturn, 1) := by decide +kernel
theorem dd_126_134 : decode (mB 126) 134 = .ok (.aload_n 0, 1) := by decide +kernel
theorem dd_126_135 : decode (mB 126) 135 = .ok (.getfield 73, 3) := by decide +kernel
theorem dd_126_138 : decode (mB 126) 138 = .ok (.invokevirtual 163, 3) := by decide +kernel
theorem dd_126_141 : decode (mB 126) 141 = .ok (.ireturn, 1) := by decide +kernel
theorem dd_126_142 : decode (mB 126) 142 = .ok (.aload_n 0, 1) := by decide +kernel
theorem dd_126_143 : decode (mB 126) 143 = .ok (.getfield 73, 3) := by decide +kernel
theorem dd_126_146 : decode (mB 126) 146 = .ok (.getfield 147, 3) := by decide +kernel
theorem dd_126_149 : decode (mB 126) 149 = .ok (.ireturn, 1) := by decide +kernel
theorem dd_127_0 : decode (mB 127) 0 = .ok (.aload_n 0, 1) := by decide +kernel
theorem dd_127_1 : decode (mB 127) 1 = .ok (.getfield 46, 3) := by decide +kernel
theorem dd_127_4 : decode (mB 127) 4 = .ok (.ifCond .eq 20, 3) := by decide +kernel
theorem dd_127_7 : decode (mB 127) 7 = .ok (.aload_n 0, 1) := by decide +kernel
theorem dd_127_8 : decode (mB 127) 8 = .ok (.getfield 43, 3) := by decide +kernel
theorem dd_127_11 : decode (mB 127) 11 = .ok (.iload_n 2, 1) := by decide +kernel
theorem dd_127_12 : decode (mB 127) 12 = .ok (.if_icmp .ne 12, 3) := by decide +kernel
theorem dd_127_15 : decode (mB 127) 15 = .ok (.aload_n 0, 1) := by decide +kernel
theorem dd_127_16 : decode (mB 127) 16 = .ok (.getfield 34, 3) := by decide +kernel
theorem dd_127_19 : decode (mB 127) 19 = .ok (.iload_n 3, 1) := by decide +kernel
theorem dd_127_20 : decode (mB 127) 20 = .ok (.if_icmp .ne 4, 3) := by decide +kernel
theorem dd_127_23 : decode (mB 127) 23 = .ok (.return_, 1) := by decide +kernel
theorem dd_127_24 : decode (mB 127) 24 = .ok (.aload_n 0, 1) := by decide +kernel
theorem dd_127_25 : decode (mB 127) 25 = .ok (.iconst 1, 1) := by decide +kernel
theorem dd_127_26 : decode (mB 127) 26 = .ok (.putfield 46, 3) := by decide +kernel
theorem dd_127_29 : decode (mB 127) 29 = .ok (.aload_n 0, 1) := by decide +kernel
theorem dd_127_30 : decode (mB 127) 30 = .ok (.iload_n 2, 1) := by decide +kernel
theorem dd_127_31 : decode (mB 127) 31 = .ok (.putfield 43, 3) := by decide +kernel
theorem dd_127_34 : decode (mB 127) 34 = .ok (.aload_n 0, 1) := by decide +kernel
theorem dd_127_35 : decode (mB 127) 35 = .ok (.iload_n 3, 1) := by decide +kernel
theorem dd_127_36 : decode (mB 127) 36 = .ok (.putfield 34, 3) := by decide +kernel
theorem dd_127_39 : decode (mB 127) 39 = .ok (.aload_n 0, 1) := by decide +kernel
theorem dd_127_40 : decode (mB 127) 40 = .ok (.iconst 0, 1) := by decide +kernel
theorem dd_127_41 : decode (mB 127) 41 = .ok (.putfield 17, 3) := by decide +kernel
theorem dd_127_44 : decode (mB 127) 44 = .ok (.aload_n 0, 1) := by decide +kernel
theorem dd_127_45 : decode (mB 127) 45 = .ok (.iconst 0, 1) := by decide +kernel
theorem dd_127_46 : decode (mB 127) 46 = .ok (.putfield 21, 3) := by decide +kernel
theorem dd_127_49 : decode (mB 127) 49 = .ok (.aload_n 0, 1) := by decide +kernel
theorem dd_127_50 : decode (mB 127) 50 = .ok (.iconst 0, 1) := by decide +kernel
theorem dd_127_51 : decode (mB 127) 51 = .ok (.putfield 24, 3) := by decide +kernel
theorem dd_127_54 : decode (mB 127) 54 = .ok (.aload_n 0, 1) := by decide +kernel
theorem dd_127_55 : decode (mB 127) 55 = .ok (.iconst 0, 1) := by decide +kernel
theorem dd_127_56 : decode (mB 127) 56 = .ok (.putfield 40, 3) := by decide +kernel
theorem dd_127_59 : decode (mB 127) 59 = .ok (.iconst 0, 1) := by decide +kernel
theorem dd_127_60 : decode (mB 127) 60 = .ok (.istore 4, 2) := by decide +kernel
theorem dd_127_62 : decode (mB 127) 62 = .ok (.iload 4, 2) := by decide +kernel
theorem dd_127_64 : decode (mB 127) 64 = .ok (.aload_n 1, 1) := by decide +kernel
theorem dd_127_65 : decode (mB 127) 65 = .ok (.getfield 21, 3) := by decide +kernel
theorem dd_127_68 : decode (mB 127) 68 = .ok (.if_icmp .ge 19, 3) := by decide +kernel
theorem dd_127_71 : decode (mB 127) 71 = .ok (.aload_n 0, 1) := by decide +kernel
theorem dd_127_72 : decode (mB 127) 72 = .ok (.aload_n 1, 1) := by decide +kernel
theorem dd_127_73 : decode (mB 127) 73 = .ok (.invokevirtual 172, 3) := by decide +kernel
theorem dd_127_76 : decode (mB 127) 76 = .ok (.aload_n 0, 1) := by decide +kernel
theorem dd_127_77 : decode (mB 127) 77 = .ok (.invokevirtual 176, 3) := by decide +kernel
theorem dd_127_80 : decode (mB 127) 80 = .ok (.pop, 1) := by decide +kernel
theorem dd_127_81 : decode (mB 127) 81 = .ok (.iinc 4 1, 3) := by decide +kernel
theorem dd_127_84 : decode (mB 127) 84 = .ok (.goto (-22), 3) := by decide +kernel
theorem dd_127_87 : decode (mB 127) 87 = .ok (.return_, 1) := by decide +kernel
theorem dd_128_0 : decode (mB 128) 0 = .ok (.aload_n 0, 1) := by decide +kernel
theorem dd_128_1 : decode (mB 128) 1 = .ok (.getfield 17, 3) := by decide +kernel
theorem dd_128_4 : decode (mB 128) 4 = .ok (.aload_n 1, 1) := by decide +kernel
theorem dd_128_5 : decode (mB 128) 5 = .ok (.getfield 17, 3) := by decide +kernel
theorem dd_128_8 : decode (mB 128) 8 = .ok (.if_icmp .ge 114, 3) := by decide +kernel
theorem dd_128_11 : decode (mB 128) 11 = .ok (.aload_n 1, 1) := by decide +kernel
theorem dd_128_12 : decode (mB 128) 12 = .ok (.getfield 11, 3) := by decide +kernel
theorem dd_128_15 : decode (mB 128) 15 = .ok (.aload_n 0, 1) := by decide +kernel
theorem dd_128_16 : decode (mB 128) 16 = .ok (.getfield 17, 3) := by decide +kernel
theorem dd_128_19 : decode (mB 128) 19 = .ok (.aaload, 1) := by decide +kernel
theorem dd_128_20 : decode (mB 128) 20 = .ok (.getfield 151, 3) := by decide +kernel
theorem dd_128_23 : decode (mB 128) 23 = .ok (.aload_n 0, 1) := by decide +kernel
theorem dd_128_24 : decode (mB 128) 24 = .ok (.getfield 21, 3) := by decide +kernel
theorem dd_128_27 : decode (mB 128) 27 = .ok (.if_icmp .ne 95, 3) := by decide +kernel
theorem dd_128_30 : decode (mB 128) 30 = .ok (.aload_n 1, 1) := by decide +kernel
theorem dd_128_31 : decode (mB 128) 31 = .ok (.getfield 11, 3) := by decide +kernel
theorem dd_128_34 : decode (mB 128) 34 = .ok (.aload_n 0, 1) := by decide +kernel
theorem dd_128_35 : decode (mB 128) 35 = .ok (.getfield 17, 3) := by decide +kernel
theorem dd_128_38 : decode (mB 128) 38 = .ok (.aaload, 1) := by decide +kernel
theorem dd_128_39 : decode (mB 128) 39 = .ok (.astore_n 2, 1) := by decide +kernel
theorem dd_128_40 : decode (mB 128) 40 = .ok (.aload_n 0, 1) := by decide +kernel
theorem dd_128_41 : decode (mB 128) 41 = .ok (.getfield 11, 3) := by decide +kernel
theorem dd_128_44 : decode (mB 128) 44 = .ok (.aload_n 0, 1) := by decide +kernel
theorem dd_128_45 : decode (mB 128) 45 = .ok (.getfield 17, 3) := by decide +kernel
theorem dd_128_48 : decode (mB 128) 48 = .ok (.aaload, 1) := by decide +kernel
theorem dd_128_49 : decode (mB 128) 49 = .ok (.astore_n 3, 1) := by decide +kernel
theorem dd_128_50 : decode (mB 128) 50 = .ok (.aload_n 3, 1) := by decide +kernel
theorem dd_128_51 : decode (mB 128) 51 = .ok (.aload_n 2, 1) := by decide +kernel
theorem dd_128_52 : decode (mB 128) 52 = .ok (.getfield 134, 3) := by decide +kernel
theorem dd_128_55 : decode (mB 128) 55 = .ok (.aload_n 2, 1) := by decide +kernel
theorem dd_128_56 : decode (mB 128) 56 = .ok (.getfield 137, 3) := by decide +kernel
theorem dd_128_59 : decode (mB 128) 59 = .ok (.aload_n 2, 1) := by decide +kernel
theorem dd_128_60 : decode (mB 128) 60 = .ok (.getfield 179, 3) := by decide +kernel
theorem dd_128_63 : decode (mB 128) 63 = .ok (.aload_n 2, 1) := by decide +kernel
theorem dd_128_64 : decode (mB 128) 64 = .ok (.getfield 113, 3) := by decide +kernel
theorem dd_128_67 : decode (mB 128) 67 = .ok (.aload_n 2, 1) := by decide +kernel
theorem dd_128_68 : decode (mB 128) 68 = .ok (.getfield 116, 3) := by decide +kernel
theorem dd_128_71 : decode (mB 128) 71 = .ok (.invokevirtual 147, 3) := by decide +kernel
theorem dd_128_74 : decode (mB 128) 74 = .ok (.aload_n 3, 1) := by decide +kernel
theorem dd_128_75 : decode (mB 128) 75 = .ok (.aload_n 2, 1) := by decide +kernel
theorem dd_128_76 : decode (mB 128) 76 = .ok (.getfield 151, 3) := by decide +kernel
theorem dd_128_79 : decode (mB 128) 79 = .ok (.putfield 151, 3) := by decide +kernel
theorem dd_128_82 : decode (mB 128) 82 = .ok (.aload_n 3, 1) := by decide +kernel
theorem dd_128_83 : decode (mB 128) 83 = .ok (.aload_n 2, 1) := by decide +kernel
theorem dd_128_84 : decode (mB 128) 84 = .ok (.getfield 164, 3) := by decide +kernel
theorem dd_128_87 : decode (mB 128) 87 = .ok (.putfield 164, 3) := by decide +kernel
theorem dd_128_90 : decode (mB 128) 90 = .ok (.aload_n 3, 1) := by decide +kernel
theorem dd_128_91 : decode (mB 128) 91 = .ok (.invokevirtual 182, 3) := by decide +kernel
theorem dd_128_94 : decode (mB 128) 94 = .ok (.aload_n 0, 1) := by decide +kernel
theorem dd_128_95 : decode (mB 128) 95 = .ok (.getfield 59, 3) := by decide +kernel
theorem dd_128_98 : decode (mB 128) 98 = .ok (.aload_n 3, 1) := by decide +kernel
theorem dd_128_99 : decode (mB 128) 99 = .ok (.getfield 134, 3) := by decide +kernel
theorem dd_128_102 : decode (mB 128) 102 = .ok (.aload_n 3, 1) := by decide +kernel
theorem dd_128_103 : decode (mB 128) 103 = .ok (.getfield 137, 3) := by decide +kernel
theorem dd_128_106 : decode (mB 128) 106 = .ok (.invokevirtual 167, 3) := by decide +kernel
theorem dd_128_109 : decode (mB 128) 109 = .ok (.aload_n 0, 1) := by decide +kernel
theorem dd_128_110 : decode (mB 128) 110 = .ok (.dup, 1) := by decide +kernel
theorem dd_128_111 : decode (mB 128) 111 = .ok (.getfield 17, 3) := by decide +kernel
theorem dd_128_114 : decode (mB 128) 114 = .ok (.iconst 1, 1) := by decide +kernel
theorem dd_128_115 : decode (mB 128) 115 = .ok (.iadd, 1) := by decide +kernel
theorem dd_128_116 : decode (mB 128) 116 = .ok (.putfield 17, 3) := by decide +kernel
theorem dd_128_119 : decode (mB 128) 119 = .ok (.goto (-119), 3) := by decide +kernel
theorem dd_128_122 : decode (mB 128) 122 = .ok (.iconst 0, 1) := by decide +kernel
theorem dd_128_123 : decode (mB 128) 123 = .ok (.istore_n 2, 1) := by decide +kernel
theorem dd_128_124 : decode (mB 128) 124 = .ok (.iload_n 2, 1) := by decide +kernel
theorem dd_128_125 : decode (mB 128) 125 = .ok (.aload_n 0, 1) := by decide +kernel
theorem dd_128_126 : decode (mB 128) 126 = .ok (.getfield 17, 3) := by decide +kernel
theorem dd_128_129 : decode (mB 128) 129 = .ok (.if_icmp .ge 31, 3) := by decide +kernel
theorem dd_128_132 : decode (mB 128) 132 = .ok (.aload_n 0, 1) := by decide +kernel
theorem dd_128_133 : decode (mB 128) 133 = .ok (.getfield 11, 3) := by decide +kernel
theorem dd_128_136 : decode (mB 128) 136 = .ok (.iload_n 2, 1) := by decide +kernel
theorem dd_128_137 : decode (mB 128) 137 = .ok (.aaload, 1) := by decide +kernel
theorem dd_128_138 : decode (mB 128) 138 = .ok (.getfield 164, 3) := by decide +kernel
theorem dd_128_141 : decode (mB 128) 141 = .ok (.aload_n 0, 1) := by decide +kernel
theorem dd_128_142 : decode (mB 128) 142 = .ok (.getfield 21, 3) := by decide +kernel
theorem dd_128_145 : decode (mB 128) 145 = .ok (.if_icmp .ne 9, 3) := by decide +kernel
theorem dd_128_148 : decode (mB 128) 148 = .ok (.aload_n 0, 1) := by decide +kernel
theorem dd_128_149 : decode (mB 128) 149 = .ok (.iload_n 2, 1) := by decide +kernel
theorem dd_128_150 : decode (mB 128) 150 = .ok (.invokevirtual 185, 3) := by decide +kernel
theorem dd_128_153 : decode (mB 128) 153 = .ok (.pop, 1) := by decide +kernel
theorem dd_128_154 : decode (mB 128) 154 = .ok (.iinc 2 1, 3) := by decide +kernel
theorem dd_128_157 : decode (mB 128) 157 = .ok (.goto (-33), 3) := by decide +kernel
theorem dd_128_160 : decode (mB 128) 160 = .ok (.return_, 1) := by decide +kernel
theorem dd_129_0 : decode (mB 129) 0 = .ok (.aload_n 0, 1) := by decide +kernel
theorem dd_129_1 : decode (mB 129) 1 = .ok (.iconst 0, 1) := by decide +kernel
theorem dd_129_2 : decode (mB 129) 2 = .ok (.putfield 40, 3) := by decide +kernel
theorem dd_129_5 : decode (mB 129) 5 = .ok (.aload_n 0, 1) := by decide +kernel
theorem dd_129_6 : decode (mB 129) 6 = .ok (.iconst (-1), 1) := by decide +kernel
theorem dd_129_7 : decode (mB 129) 7 = .ok (.putfield 43, 3) := by decide +kernel
theorem dd_129_10 : decode (mB 129) 10 = .ok (.aload_n 0, 1) := by decide +kernel
theorem dd_129_11 : decode (mB 129) 11 = .ok (.iconst (-1), 1) := by decide +kernel
theorem dd_129_12 : decode (mB 129) 12 = .ok (.putfield 46, 3) := by decide +kernel
theorem dd_129_15 : decode (mB 129) 15 = .ok (.aload_n 0, 1) := by decide +kernel
theorem dd_129_16 : decode (mB 129) 16 = .ok (.iconst 0, 1) := by decide +kernel
theorem dd_129_17 : decode (mB 129) 17 = .ok (.putfield 49, 3) := by decide +kernel
theorem dd_129_20 : decode (mB 129) 20 = .ok (.aload_n 0, 1) := by decide +kernel
theorem dd_129_21 : decode (mB 129) 21 = .ok (.iconst 0, 1) := by decide +kernel
theorem dd_129_22 : decode (mB 129) 22 = .ok (.putfield 54, 3) := by decide +kernel
theorem dd_129_25 : decode (mB 129) 25 = .ok (.aload_n 0, 1) := by decide +kernel
theorem dd_129_26 : decode (mB 129) 26 = .ok (.iconst 0, 1) := by decide +kernel
theorem dd_129_27 : decode (mB 129) 27 = .ok (.putfield 57, 3) := by decide +kernel
theorem dd_129_30 : decode (mB 129) 30 = .ok (.aload_n 0, 1) := by decide +kernel
theorem dd_129_31 : decode (mB 129) 31 = .ok (.iconst 0, 1) := by decide +kernel
theorem dd_129_32 : decode (mB 129) 32 = .ok (.putfield 60, 3) := by decide +kernel
theorem dd_129_35 : decode (mB 129) 35 = .ok (.aload_n 0, 1) := by decide +kernel
theorem dd_129_36 : decode (mB 129) 36 = .ok (.iconst (-1), 1) := by decide +kernel
theorem dd_129_37 : decode (mB 129) 37 = .ok (.putfield 63, 3) := by decide +kernel
theorem dd_129_40 : decode (mB 129) 40 = .ok (.return_, 1) := by decide +kernel
theorem dd_130_0 : decode (mB 130) 0 = .ok (.iload_n 1, 1) := by decide +kernel
theorem dd_130_1 : decode (mB 130) 1 = .ok (.invokestatic 83, 3) := by decide +kernel
theorem dd_130_4 : decode (mB 130) 4 = .ok (.ifCond .eq 10, 3) := by decide +kernel
theorem dd_130_7 : decode (mB 130) 7 = .ok (.iload_n 2, 1) := by decide +kernel
theorem dd_130_8 : decode (mB 130) 8 = .ok (.invokestatic 83, 3) := by decide +kernel
theorem dd_130_11 : decode (mB 130) 11 = .ok (.ifCond .ne 6, 3) := by decide +kernel
theorem dd_130_14 : decode (mB 130) 14 = .ok (.ldc 87, 2) := by decide +kernel
theorem dd_130_16 : decode (mB 130) 16 = .ok (.ireturn, 1) := by decide +kernel
theorem dd_130_17 : decode (mB 130) 17 = .ok (.iload_n 1, 1) := by decide +kernel
theorem dd_130_18 : decode (mB 130) 18 = .ok (.iload_n 2, 1) := by decide +kernel
theorem dd_130_19 : decode (mB 130) 19 = .ok (.if_icmp .eq 26, 3) := by decide +kernel
theorem dd_130_22 : decode (mB 130) 22 = .ok (.iload_n 3, 1) := by decide +kernel
theorem dd_130_23 : decode (mB 130) 23 = .ok (.iconst 1, 1) := by decide +kernel
theorem dd_130_24 : decode (mB 130) 24 = .ok (.sipush 300, 3) := by decide +kernel
theorem dd_130_27 : decode (mB 130) 27 = .ok (.invokestatic 88, 3) := by decide +kernel
theorem dd_130_30 : decode (mB 130) 30 = .ok (.ifCond .eq 15, 3) := by decide +kernel
theorem dd_130_33 : decode (mB 130) 33 = .ok (.iload 4, 2) := by decide +kernel
theorem dd_130_35 : decode (mB 130) 35 = .ok (.iconst 0, 1) := by decide +kernel
theorem dd_130_36 : decode (mB 130) 36 = .ok (.sipush 9999, 3) := by decide +kernel
theorem dd_130_39 : decode (mB 130) 39 = .ok (.invokestatic 88, 3) := by decide +kernel
theorem dd_130_42 : decode (mB 130) 42 = .ok (.ifCond .ne 6, 3) := by decide +kernel
theorem dd_130_45 : decode (mB 130) 45 = .ok (.ldc 92, 2) := by decide +kernel
theorem dd_130_47 : decode (mB 130) 47 = .ok (.ireturn, 1) := by decide +kernel
theorem dd_130_48 : decode (mB 130) 48 = .ok (.aload_n 0, 1) := by decide +kernel
theorem dd_130_49 : decode (mB 130) 49 = .ok (.getfield 12, 3) := by decide +kernel
theorem dd_130_52 : decode (mB 130) 52 = .ok (.getfield 154, 3) := by decide +kernel
theorem dd_130_55 : decode (mB 130) 55 = .ok (.iconst 4, 1) := by decide +kernel
theorem dd_130_56 : decode (mB 130) 56 = .ok (.if_icmp .lt 6, 3) := by decide +kernel
theorem dd_130_59 : decode (mB 130) 59 = .ok (.ldc 96, 2) := by decide +kernel
theorem dd_130_61 : decode (mB 130) 61 = .ok (.ireturn, 1) := by decide +kernel
theorem dd_130_62 : decode (mB 130) 62 = .ok (.aload_n 0, 1) := by decide +kernel
theorem dd_130_63 : decode (mB 130) 63 = .ok (.invokevirtual 97, 3) := by decide +kernel
theorem dd_130_66 : decode (mB 130) 66 = .ok (.aload_n 0, 1) := by decide +kernel
theorem dd_130_67 : decode (mB 130) 67 = .ok (.getfield 12, 3) := by decide +kernel
theorem dd_130_70 : decode (mB 130) 70 = .ok (.bipush 16, 2) := by decide +kernel
theorem dd_130_72 : decode (mB 130) 72 = .ok (.aload_n 0, 1) := by decide +kernel
theorem dd_130_73 : decode (mB 130) 73 = .ok (.getfield 12, 3) := by decide +kernel
theorem dd_130_76 : decode (mB 130) 76 = .ok (.getfield 154, 3) := by decide +kernel
theorem dd_130_79 : decode (mB 130) 79 = .ok (.iadd, 1) := by decide +kernel
theorem dd_130_80 : decode (mB 130) 80 = .ok (.iload_n 1, 1) := by decide +kernel
theorem dd_130_81 : decode (mB 130) 81 = .ok (.iload_n 2, 1) := by decide +kernel
theorem dd_130_82 : decode (mB 130) 82 = .ok (.iload_n 3, 1) := by decide +kernel
theorem dd_130_83 : decode (mB 130) 83 = .ok (.invokevirtual 100, 3) := by decide +kernel
theorem dd_130_86 : decode (mB 130) 86 = .ok (.aload_n 0, 1) := by decide +kernel
theorem dd_130_87 : decode (mB 130) 87 = .ok (.getfield 12, 3) := by decide +kernel
theorem dd_130_90 : decode (mB 130) 90 = .ok (.getfield 346, 3) := by decide +kernel
theorem dd_130_93 : decode (mB 130) 93 = .ok (.aload_n 0, 1) := by decide +kernel
theorem dd_130_94 : decode (mB 130) 94 = .ok (.getfield 12, 3) := by decide +kernel
theorem dd_130_97 : decode (mB 130) 97 = .ok (.getfield 154, 3) := by decide +kernel
theorem dd_130_100 : decode (mB 130) 100 = .ok (.iload 4, 2) := by decide +kernel
theorem dd_130_102 : decode (mB 130) 102 = .ok (.iastore, 1) := by decide +kernel
theorem dd_130_103 : decode (mB 130) 103 = .ok (.aload_n 0, 1) := by decide +kernel
theorem dd_130_104 : decode (mB 130) 104 = .ok (.getfield 12, 3) := by decide +kernel
theorem dd_130_107 : decode (mB 130) 107 = .ok (.dup, 1) := by decide +kernel
theorem dd_130_108 : decode (mB 130) 108 = .ok (.getfield 154, 3) := by decide +kernel
theorem dd_130_111 : decode (mB 130) 111 = .ok (.iconst 1, 1) := by decide +kernel
theorem dd_130_112 : decode (mB 130) 112 = .ok (.iadd, 1) := by decide +kernel
theorem dd_130_113 : decode (mB 130) 113 = .ok (.putfield 154, 3) := by decide +kernel
theorem dd_130_116 : decode (mB 130) 116 = .ok (.aload_n 0, 1) := by decide +kernel
theorem dd_130_117 : decode (mB 130) 117 = .ok (.getfield 12, 3) := by decide +kernel
theorem dd_130_120 : decode (mB 130) 120 = .ok (.getfield 154, 3) := by decide +kernel
theorem dd_130_123 : decode (mB 130) 123 = .ok (.iconst 1, 1) := by decide +kernel
theorem dd_130_124 : decode (mB 130) 124 = .ok (.isub, 1) := by decide +kernel
theorem dd_130_125 : decode (mB 130) 125 = .ok (.ireturn, 1) := by decide +kernel
theorem dd_131_0 : decode (mB 131) 0 = .ok (.iload_n 1, 1) := by decide +kernel
theorem dd_131_1 : decode (mB 131) 1 = .ok (.iconst 0, 1) := by decide +kernel
theorem dd_131_2 : decode (mB 131) 2 = .ok (.ldc_w 349, 3) := by decide +kernel
theorem dd_131_5 : decode (mB 131) 5 = .ok (.invokestatic 88, 3) := by decide +kernel
theorem dd_131_8 : decode (mB 131) 8 = .ok (.ifCond .eq 12, 3) := by decide +kernel
theorem dd_131_11 : decode (mB 131) 11 = .ok (.iload_n 2, 1) := by decide +kernel
theorem dd_131_12 : decode (mB 131) 12 = .ok (.iconst 0, 1) := by decide +kernel
theorem dd_131_13 : decode (mB 131) 13 = .ok (.iconst 2, 1) := by decide +kernel
theorem dd_131_14 : decode (mB 131) 14 = .ok (.invokestatic 88, 3) := by decide +kernel
theorem dd_131_17 : decode (mB 131) 17 = .ok (.ifCond .ne 6, 3) := by decide +kernel
theorem dd_131_20 : decode (mB 131) 20 = .ok (.ldc 92, 2) := by decide +kernel
theorem dd_131_22 : decode (mB 131) 22 = .ok (.ireturn, 1) := by decide +kernel
theorem dd_131_23 : decode (mB 131) 23 = .ok (.iconst 0, 1) := by decide +kernel
theorem dd_131_24 : decode (mB 131) 24 = .ok (.istore_n 3, 1) := by decide +kernel
theorem dd_131_25 : decode (mB 131) 25 = .ok (.iconst 0, 1) := by decide +kernel
theorem dd_131_26 : decode (mB 131) 26 = .ok (.istore 4, 2) := by decide +kernel
theorem dd_131_28 : decode (mB 131) 28 = .ok (.aload_n 0, 1) := by decide +kernel
theorem dd_131_29 : decode (mB 131) 29 = .ok (.iconst 0, 1) := by decide +kernel
theorem dd_131_30 : decode (mB 131) 30 = .ok (.invokevirtual 350, 3) := by decide +kernel
theorem dd_131_33 : decode (mB 131) 33 = .ok (.istore 5, 2) := by decide +kernel
theorem dd_131_35 : decode (mB 131) 35 = .ok (.iconst 1, 1) := by decide +kernel
theorem dd_131_36 : decode (mB 131) 36 = .ok (.istore 6, 2) := by decide +kernel
theorem dd_131_38 : decode (mB 131) 38 = .ok (.iload 6, 2) := by decide +kernel
theorem dd_131_40 : decode (mB 131) 40 = .ok (.iconst 1, 1) := by decide +kernel
theorem dd_131_41 : decode (mB 131) 41 = .ok (.aload_n 0, 1) := by decide +kernel
theorem dd_131_42 : decode (mB 131) 42 = .ok (.getfield 12, 3) := by decide +kernel
theorem dd_131_45 : decode (mB 131) 45 = .ok (.getfield 154, 3) := by decide +kernel
theorem dd_131_48 : decode (mB 131) 48 = .ok (.ishl, 1) := by decide +kernel
theorem dd_131_49 : decode (mB 131) 49 = .ok (.if_icmp .ge 69, 3) := by decide +kernel
theorem dd_131_52 : decode (mB 131) 52 = .ok (.aload_n 0, 1) := by decide +kernel
theorem dd_131_53 : decode (mB 131) 53 = .ok (.getfield 12, 3) := by decide +kernel
theorem dd_131_56 : decode (mB 131) 56 = .ok (.iload 6, 2) := by decide +kernel
theorem dd_131_58 : decode (mB 131) 58 = .ok (.invokevirtual 353, 3) := by decide +kernel
theorem dd_131_61 : decode (mB 131) 61 = .ok (.istore 7, 2) := by decide +kernel
theorem dd_131_63 : decode (mB 131) 63 = .ok (.iload 7, 2) := by decide +kernel
theorem dd_131_65 : decode (mB 131) 65 = .ok (.iload_n 1, 1) := by decide +kernel
theorem dd_131_66 : decode (mB 131) 66 = .ok (.if_icmp .le 6, 3) := by decide +kernel
theorem dd_131_69 : decode (mB 131) 69 = .ok (.goto 43, 3) := by decide +kernel
theorem dd_131_72 : decode (mB 131) 72 = .ok (.aload_n 0, 1) := by decide +kernel
theorem dd_131_73 : decode (mB 131) 73 = .ok (.iload 6, 2) := by decide +kernel
theorem dd_131_75 : decode (mB 131) 75 = .ok (.invokevirtual 350, 3) := by decide +kernel
theorem dd_131_78 : decode (mB 131) 78 = .ok (.istore 8, 2) := by decide +kernel
theorem dd_131_80 : decode (mB 131) 80 = .ok (.iload 8, 2) := by decide +kernel
theorem dd_131_82 : decode (mB 131) 82 = .ok (.iload 5, 2) := by decide +kernel
theorem dd_131_84 : decode (mB 131) 84 = .ok (.if_icmp .lt 17, 3) := by decide +kernel
theorem dd_131_87 : decode (mB 131) 87 = .ok (.iload 8, 2) := by decide +kernel
theorem dd_131_89 : decode (mB 131) 89 = .ok (.iload 5, 2) := by decide +kernel
theorem dd_131_91 : decode (mB 131) 91 = .ok (.if_icmp .ne 21, 3) := by decide +kernel
theorem dd_131_94 : decode (mB 131) 94 = .ok (.iload 7, 2) := by decide +kernel
theorem dd_131_96 : decode (mB 131) 96 = .ok (.iload 4, 2) := by decide +kernel
theorem dd_131_98 : decode (mB 131) 98 = .ok (.if_icmp .ge 14, 3) := by decide +kernel
theorem dd_131_101 : decode (mB 131) 101 = .ok (.iload 6, 2) := by decide +kernel
theorem dd_131_103 : decode (mB 131) 103 = .ok (.istore_n 3, 1) := by decide +kernel
theorem dd_131_104 : decode (mB 131) 104 = .ok (.iload 7, 2) := by decide +kernel
theorem dd_131_106 : decode (mB 131) 106 = .ok (.istore 4, 2) := by decide +kernel
theorem dd_131_108 : decode (mB 131) 108 = .ok (.iload 8, 2) := by decide +kernel
theorem dd_131_110 : decode (mB 131) 110 = .ok (.istore 5, 2) := by decide +kernel
theorem dd_131_112 : decode (mB 131) 112 = .ok (.iinc 6 1, 3) := by decide +kernel
theorem dd_131_115 : decode (mB 131) 115 = .ok (.goto (-77), 3) := by decide +kernel
theorem dd_131_118 : decode (mB 131) 118 = .ok (.iload_n 2, 1) := by decide +kernel
theorem dd_131_119 : decode (mB 131) 119 = .ok (.ifCond .ne 7, 3) := by decide +kernel
theorem dd_131_122 : decode (mB 131) 122 = .ok (.iload_n 3, 1) := by decide +kernel
theorem dd_131_123 : decode (mB 131) 123 = .ok (.goto 15, 3) := by decide +kernel
theorem dd_131_126 : decode (mB 131) 126 = .ok (.iload_n 2, 1) := by decide +kernel
theorem dd_131_127 : decode (mB 131) 127 = .ok (.iconst 1, 1) := by decide +kernel
theorem dd_131_128 : decode (mB 131) 128 = .ok (.if_icmp .ne 8, 3) := by decide +kernel
theorem dd_131_131 : decode (mB 131) 131 = .ok (.iload 4, 2) := by decide +kernel
theorem dd_131_133 : decode (mB 131) 133 = .ok (.goto 5, 3) := by decide +kernel
theorem dd_131_136 : decode (mB 131) 136 = .ok (.iload 5, 2) := by decide +kernel
theorem dd_131_138 : decode (mB 131) 138 = .ok (.ireturn, 1) := by decide +kernel
theorem dd_132_0 : decode (mB 132) 0 = .ok (.iload_n 1, 1) := by decide +kernel
theorem dd_132_1 : decode (mB 132) 1 = .ok (.ifCond .lt 12, 3) := by decide +kernel
theorem dd_132_4 : decode (mB 132) 4 = .ok (.iload_n 1, 1) := by decide +kernel
theorem dd_132_5 : decode (mB 132) 5 = .ok (.aload_n 0, 1) := by decide +kernel
theorem dd_132_6 : decode (mB 132) 6 = .ok (.getfield 76, 3) := by decide +kernel
theorem dd_132_9 : decode (mB 132) 9 = .ok (.arraylength, 1) := by decide +kernel
theorem dd_132_10 : decode (mB 132) 10 = .ok (.if_icmp .lt 5, 3) := by decide +kernel
theorem dd_132_13 : decode (mB 132) 13 = .ok (.iconst 0, 1) := by decide +kernel
theorem dd_132_14 : decode (mB 132) 14 = .ok (.ireturn, 1) := by decide +kernel
theorem dd_132_15 : decode (mB 132) 15 = .ok (.aload_n 0, 1) := by decide +kernel
theorem dd_132_16 : decode (mB 132) 16 = .ok (.getfield 79, 3) := by decide +kernel
theorem dd_132_19 : decode (mB 132) 19 = .ok (.iload_n 1, 1) := by decide +kernel
theorem dd_132_20 : decode (mB 132) 20 = .ok (.ishr, 1) := by decide +kernel
theorem dd_132_21 : decode (mB 132) 21 = .ok (.iconst 1, 1) := by decide +kernel
theorem dd_132_22 : decode (mB 132) 22 = .ok (.iand, 1) := by decide +kernel
theorem dd_132_23 : decode (mB 132) 23 = .ok (.ifCond .ne 52, 3) := by decide +kernel
theorem dd_132_26 : decode (mB 132) 26 = .ok (.aload_n 0, 1) := by decide +kernel
theorem dd_132_27 : decode (mB 132) 27 = .ok (.getfield 73, 3) := by decide +kernel
theorem dd_132_30 : decode (mB 132) 30 = .ok (.aload_n 0, 1) := by decide +kernel
theorem dd_132_31 : decode (mB 132) 31 = .ok (.getfield 55, 3) := by decide +kernel
theorem dd_132_34 : decode (mB 132) 34 = .ok (.iconst 0, 1) := by decide +kernel
theorem dd_132_35 : decode (mB 132) 35 = .ok (.aload_n 0, 1) := by decide +kernel
theorem dd_132_36 : decode (mB 132) 36 = .ok (.getfield 12, 3) := by decide +kernel
theorem dd_132_39 : decode (mB 132) 39 = .ok (.invokevirtual 104, 3) := by decide +kernel
theorem dd_132_42 : decode (mB 132) 42 = .ok (.iload_n 1, 1) := by decide +kernel
theorem dd_132_43 : decode (mB 132) 43 = .ok (.bipush 16, 2) := by decide +kernel
theorem dd_132_45 : decode (mB 132) 45 = .ok (.ishl, 1) := by decide +kernel
theorem dd_132_46 : decode (mB 132) 46 = .ok (.ior, 1) := by decide +kernel
theorem dd_132_47 : decode (mB 132) 47 = .ok (.invokevirtual 342, 3) := by decide +kernel
theorem dd_132_50 : decode (mB 132) 50 = .ok (.aload_n 0, 1) := by decide +kernel
theorem dd_132_51 : decode (mB 132) 51 = .ok (.getfield 76, 3) := by decide +kernel
theorem dd_132_54 : decode (mB 132) 54 = .ok (.iload_n 1, 1) := by decide +kernel
theorem dd_132_55 : decode (mB 132) 55 = .ok (.aload_n 0, 1) := by decide +kernel
theorem dd_132_56 : decode (mB 132) 56 = .ok (.getfield 73, 3) := by decide +kernel
theorem dd_132_59 : decode (mB 132) 59 = .ok (.invokevirtual 160, 3) := by decide +kernel
theorem dd_132_62 : decode (mB 132) 62 = .ok (.iastore, 1) := by decide +kernel
theorem dd_132_63 : decode (mB 132) 63 = .ok (.aload_n 0, 1) := by decide +kernel
theorem dd_132_64 : decode (mB 132) 64 = .ok (.dup, 1) := by decide +kernel
theorem dd_132_65 : decode (mB 132) 65 = .ok (.getfield 79, 3) := by decide +kernel
theorem dd_132_68 : decode (mB 132) 68 = .ok (.iconst 1, 1) := by decide +kernel
theorem dd_132_69 : decode (mB 132) 69 = .ok (.iload_n 1, 1) := by decide +kernel
theorem dd_132_70 : decode (mB 132) 70 = .ok (.ishl, 1) := by decide +kernel
theorem dd_132_71 : decode (mB 132) 71 = .ok (.ior, 1) := by decide +kernel
theorem dd_132_72 : decode (mB 132) 72 = .ok (.putfield 79, 3) := by decide +kernel
theorem dd_132_75 : decode (mB 132) 75 = .ok (.aload_n 0, 1) := by decide +kernel
theorem dd_132_76 : decode (mB 132) 76 = .ok (.getfield 76, 3) := by decide +kernel
theorem dd_132_79 : decode (mB 132) 79 = .ok (.iload_n 1, 1) := by decide +kernel
theorem dd_132_80 : decode (mB 132) 80 = .ok (.iaload, 1) := by decide +kernel
theorem dd_132_81 : decode (mB 132) 81 = .ok (.ireturn, 1) := by decide +kernel
theorem dd_133_0 : decode (mB 133) 0 = .ok (.iconst 0, 1) := by decide +kernel
theorem dd_133_1 : decode (mB 133) 1 = .ok (.istore_n 2, 1) := by decide +kernel
theorem dd_133_2 : decode (mB 133) 2 = .ok (.iconst 0, 1) := by decide +kernel
theorem dd_133_3 : decode (mB 133) 3 = .ok (.istore_n 3, 1) := by decide +kernel
theorem dd_133_4 : decode (mB 133) 4 = .ok (.iload_n 3, 1) := by decide +kernel
theorem dd_133_5 : decode (mB 133) 5 = .ok (.aload_n 0, 1) := by decide +kernel
theorem dd_133_6 : decode (mB 133) 6 = .ok (.getfield 28, 3) := by decide +kernel
theorem dd_133_9 : decode (mB 133) 9 = .ok (.if_icmp .ge 26, 3) := by decide +kernel
theorem dd_133_12 : decode (mB 133) 12 = .ok (.iload_n 1, 1) := by decide +kernel
theorem dd_133_13 : decode (mB 133) 13 = .ok (.iload_n 3, 1) := by decide +kernel
theorem dd_133_14 : decode (mB 133) 14 = .ok (.ishr, 1) := by decide +kernel
theorem dd_133_15 : decode (mB 133) 15 = .ok (.iconst 1, 1) := by decide +kernel
theorem dd_133_16 : decode (mB 133) 16 = .ok (.iand, 1) := by decide +kernel
theorem dd_133_17 : decode (mB 133) 17 = .ok (.ifCond .eq 12, 3) := by decide +kernel
theorem dd_133_20 : decode (mB 133) 20 = .ok (.iload_n 2, 1) := by decide +kernel
theorem dd_133_21 : decode (mB 133) 21 = .ok (.aload_n 0, 1) := by decide +kernel
theorem dd_133_22 : decode (mB 133) 22 = .ok (.getfield 21, 3) := by decide +kernel
theorem dd_133_25 : decode (mB 133) 25 = .ok (.iload_n 3, 1) := by decide +kernel
theorem dd_133_26 : decode (mB 133) 26 = .ok (.iaload, 1) := by decide +kernel
theorem dd_133_27 : decode (mB 133) 27 = .ok (.iadd, 1) := by decide +kernel
theorem dd_133_28 : decode (mB 133) 28 = .ok (.istore_n 2, 1) := by decide +kernel
theorem dd_133_29 : decode (mB 133) 29 = .ok (.iinc 3 1, 3) := by decide +kernel
theorem dd_133_32 : decode (mB 133) 32 = .ok (.goto (-28), 3) := by decide +kernel
theorem dd_133_35 : decode (mB 133) 35 = .ok (.iload_n 2, 1) := by decide +kernel
theorem dd_133_36 : decode (mB 133) 36 = .ok (.ireturn, 1) := by decide +kernel
theorem dd_135_0 : decode (mB 135) 0 = .ok (.iload_n 1, 1) := by decide +kernel
theorem dd_135_1 : decode (mB 135) 1 = .ok (.invokestatic 192, 3) := by decide +kernel
theorem dd_135_4 : decode (mB 135) 4 = .ok (.ifCond .eq 10, 3) := by decide +kernel
theorem dd_135_7 : decode (mB 135) 7 = .ok (.iload_n 2, 1) := by decide +kernel
theorem dd_135_8 : decode (mB 135) 8 = .ok (.invokestatic 192, 3) := by decide +kernel
theorem dd_135_11 : decode (mB 135) 11 = .ok (.ifCond .ne 6, 3) := by decide +kernel
theorem dd_135_14 : decode (mB 135) 14 = .ok (.ldc 196, 2) := by decide +kernel
theorem dd_135_16 : decode (mB 135) 16 = .ok (.ireturn, 1) := by decide +kernel
theorem dd_135_17 : decode (mB 135) 17 = .ok (.iload_n 1, 1) := by decide +kernel
theorem dd_135_18 : decode (mB 135) 18 = .ok (.iload_n 2, 1) := by decide +kernel
theorem dd_135_19 : decode (mB 135) 19 = .ok (.if_icmp .eq 10, 3) := by decide +kernel
theorem dd_135_22 : decode (mB 135) 22 = .ok (.iload_n 3, 1) := by decide +kernel
theorem dd_135_23 : decode (mB 135) 23 = .ok (.invokestatic 197, 3) := by decide +kernel
theorem dd_135_26 : decode (mB 135) 26 = .ok (.ifCond .ne 6, 3) := by decide +kernel
theorem dd_135_29 : decode (mB 135) 29 = .ok (.ldc 200, 2) := by decide +kernel
theorem dd_135_31 : decode (mB 135) 31 = .ok (.ireturn, 1) := by decide +kernel
theorem dd_135_32 : decode (mB 135) 32 = .ok (.aload_n 0, 1) := by decide +kernel
theorem dd_135_33 : decode (mB 135) 33 = .ok (.getfield 187, 3) := by decide +kernel
theorem dd_135_36 : decode (mB 135) 36 = .ok (.bipush 16, 2) := by decide +kernel
theorem dd_135_38 : decode (mB 135) 38 = .ok (.if_icmp .ne 6, 3) := by decide +kernel
theorem dd_135_41 : decode (mB 135) 41 = .ok (.ldc 201, 2) := by decide +kernel
theorem dd_135_43 : decode (mB 135) 43 = .ok (.ireturn, 1) := by decide +kernel
theorem dd_135_44 : decode (mB 135) 44 = .ok (.aload_n 0, 1) := by decide +kernel
theorem dd_135_45 : decode (mB 135) 45 = .ok (.getfield 7, 3) := by decide +kernel
theorem dd_135_48 : decode (mB 135) 48 = .ok (.aload_n 0, 1) := by decide +kernel
theorem dd_135_49 : decode (mB 135) 49 = .ok (.getfield 187, 3) := by decide +kernel
theorem dd_135_52 : decode (mB 135) 52 = .ok (.iload_n 1, 1) := by decide +kernel
theorem dd_135_53 : decode (mB 135) 53 = .ok (.iastore, 1) := by decide +kernel
theorem dd_135_54 : decode (mB 135) 54 = .ok (.aload_n 0, 1) := by decide +kernel
theorem dd_135_55 : decode (mB 135) 55 = .ok (.getfield 13, 3) := by decide +kernel
theorem dd_135_58 : decode (mB 135) 58 = .ok (.aload_n 0, 1) := by decide +kernel
theorem dd_135_59 : decode (mB 135) 59 = .ok (.getfield 187, 3) := by decide +kernel
theorem dd_135_62 : decode (mB 135) 62 = .ok (.iload_n 2, 1) := by decide +kernel
theorem dd_135_63 : decode (mB 135) 63 = .ok (.iastore, 1) := by decide +kernel
theorem dd_135_64 : decode (mB 135) 64 = .ok (.aload_n 0, 1) := by decide +kernel
theorem dd_135_65 : decode (mB 135) 65 = .ok (.getfield 16, 3) := by decide +kernel
theorem dd_135_68 : decode (mB 135) 68 = .ok (.aload_n 0, 1) := by decide +kernel
theorem dd_135_69 : decode (mB 135) 69 = .ok (.getfield 187, 3) := by decide +kernel
theorem dd_135_72 : decode (mB 135) 72 = .ok (.iload_n 3, 1) := by decide +kernel
theorem dd_135_73 : decode (mB 135) 73 = .ok (.iastore, 1) := by decide +kernel
theorem dd_135_74 : decode (mB 135) 74 = .ok (.aload_n 0, 1) := by decide +kernel
theorem dd_135_75 : decode (mB 135) 75 = .ok (.getfield 129, 3) := by decide +kernel
theorem dd_135_78 : decode (mB 135) 78 = .ok (.aload_n 0, 1) := by decide +kernel
theorem dd_135_79 : decode (mB 135) 79 = .ok (.getfield 187, 3) := by decide +kernel
theorem dd_135_82 : decode (mB 135) 82 = .ok (.iconst (-1), 1) := by decide +kernel
theorem dd_135_83 : decode (mB 135) 83 = .ok (.iastore, 1) := by decide +kernel
theorem dd_135_84 : decode (mB 135) 84 = .ok (.aload_n 0, 1) := by decide +kernel
theorem dd_135_85 : decode (mB 135) 85 = .ok (.getfield 132, 3) := by decide +kernel
theorem dd_135_88 : decode (mB 135) 88 = .ok (.aload_n 0, 1) := by decide +kernel
theorem dd_135_89 : decode (mB 135) 89 = .ok (.getfield 187, 3) := by decide +kernel
theorem dd_135_92 : decode (mB 135) 92 = .ok (.iconst 0, 1) := by decide +kernel
theorem dd_135_93 : decode (mB 135) 93 = .ok (.iastore, 1) := by decide +kernel
theorem dd_135_94 : decode (mB 135) 94 = .ok (.aload_n 0, 1) := by decide +kernel
theorem dd_135_95 : decode (mB 135) 95 = .ok (.getfield 135, 3) := by decide +kernel
theorem dd_135_98 : decode (mB 135) 98 = .ok (.aload_n 0, 1) := by decide +kernel
theorem dd_135_99 : decode (mB 135) 99 = .ok (.getfield 187, 3) := by decide +kernel
theorem dd_135_102 : decode (mB 135) 102 = .ok (.iconst 0, 1) := by decide +kernel
theorem dd_135_103 : decode (mB 135) 103 = .ok (.iastore, 1) := by decide +kernel
theorem dd_135_104 : decode (mB 135) 104 = .ok (.aload_n 0, 1) := by decide +kernel
theorem dd_135_105 : decode (mB 135) 105 = .ok (.dup, 1) := by decide +kernel
theorem dd_135_106 : decode (mB 135) 106 = .ok (.getfield 187, 3) := by decide +kernel
theorem dd_135_109 : decode (mB 135) 109 = .ok (.iconst 1, 1) := by decide +kernel
theorem dd_135_110 : decode (mB 135) 110 = .ok (.iadd, 1) := by decide +kernel
theorem dd_135_111 : decode (mB 135) 111 = .ok (.putfield 187, 3) := by decide +kernel
theorem dd_135_114 : decode (mB 135) 114 = .ok (.aload_n 0, 1) := by decide +kernel
theorem dd_135_115 : decode (mB 135) 115 = .ok (.iconst 0, 1) := by decide +kernel
theorem dd_135_116 : decode (mB 135) 116 = .ok (.putfield 202, 3) := by decide +kernel
theorem dd_135_119 : decode (mB 135) 119 = .ok (.aload_n 0, 1) := by decide +kernel
theorem dd_135_120 : decode (mB 135) 120 = .ok (.getfield 187, 3) := by decide +kernel
theorem dd_135_123 : decode (mB 135) 123 = .ok (.iconst 1, 1) := by decide +kernel
theorem dd_135_124 : decode (mB 135) 124 = .ok (.isub, 1) := by decide +kernel
theorem dd_135_125 : decode (mB 135) 125 = .ok (.ireturn, 1) := by decide +kernel
theorem dd_136_0 : decode (mB 136) 0 = .ok (.iload_n 0, 1) := by decide +kernel
theorem dd_136_1 : decode (mB 136) 1 = .ok (.i2l, 1) := by decide +kernel
theorem dd_136_2 : decode (mB 136) 2 = .ok (.lconst 0, 1) := by decide +kernel
theorem dd_136_3 : decode (mB 136) 3 = .ok (.ldc2_w 181, 3) := by decide +kernel
theorem dd_136_6 : decode (mB 136) 6 = .ok (.invokestatic 183, 3) := by decide +kernel
theorem dd_136_9 : decode (mB 136) 9 = .ok (.ireturn, 1) := by decide +kernel
theorem dd_137_0 : decode (mB 137) 0 = .ok (.lload_n 0, 1) := by decide +kernel
theorem dd_137_1 : decode (mB 137) 1 = .ok (.lload_n 2, 1) := by decide +kernel
theorem dd_137_2 : decode (mB 137) 2 = .ok (.lcmp, 1) := by decide +kernel
theorem dd_137_3 : decode (mB 137) 3 = .ok (.ifCond .lt 14, 3) := by decide +kernel
theorem dd_137_6 : decode (mB 137) 6 = .ok (.lload_n 0, 1) := by decide +kernel
theorem dd_137_7 : decode (mB 137) 7 = .ok (.lload 4, 2) := by decide +kernel
theorem dd_137_9 : decode (mB 137) 9 = .ok (.lcmp, 1) := by decide +kernel
theorem dd_137_10 : decode (mB 137) 10 = .ok (.ifCond .gt 7, 3) := by decide +kernel
theorem dd_137_13 : decode (mB 137) 13 = .ok (.iconst 1, 1) := by decide +kernel
theorem dd_137_14 : decode (mB 137) 14 = .ok (.goto 4, 3) := by decide +kernel
theorem dd_137_17 : decode (mB 137) 17 = .ok (.iconst 0, 1) := by decide +kernel
theorem dd_137_18 : decode (mB 137) 18 = .ok (.ireturn, 1) := by decide +kernel
theorem dd_138_0 : decode (mB 138) 0 = .ok (.iload_n 0, 1) := by decide +kernel
theorem dd_138_1 : decode (mB 138) 1 = .ok (.i2l, 1) := by decide +kernel
theorem dd_138_2 : decode (mB 138) 2 = .ok (.lconst 1, 1) := by decide +kernel
theorem dd_138_3 : decode (mB 138) 3 = .ok (.ldc2_w 190, 3) := by decide +kernel
theorem dd_138_6 : decode (mB 138) 6 = .ok (.invokestatic 183, 3) := by decide +kernel
theorem dd_138_9 : decode (mB 138) 9 = .ok (.ireturn, 1) := by decide +kernel
theorem dd_139_0 : decode (mB 139) 0 = .ok (.aload_n 0, 1) := by decide +kernel
theorem dd_139_1 : decode (mB 139) 1 = .ok (.iload_n 1, 1) := by decide +kernel
theorem dd_139_2 : decode (mB 139) 2 = .ok (.invokevirtual 208, 3) := by decide +kernel
theorem dd_139_5 : decode (mB 139) 5 = .ok (.ifCond .eq 6, 3) := by decide +kernel
theorem dd_139_8 : decode (mB 139) 8 = .ok (.ldc 196, 2) := by decide +kernel
theorem dd_139_10 : decode (mB 139) 10 = .ok (.ireturn, 1) := by decide +kernel
theorem dd_139_11 : decode (mB 139) 11 = .ok (.iload_n 2, 1) := by decide +kernel
theorem dd_139_12 : decode (mB 139) 12 = .ok (.i2l, 1) := by decide +kernel
theorem dd_139_13 : decode (mB 139) 13 = .ok (.lconst 0, 1) := by decide +kernel
theorem dd_139_14 : decode (mB 139) 14 = .ok (.ldc2_w 211, 3) := by decide +kernel
theorem dd_139_17 : decode (mB 139) 17 = .ok (.invokestatic 183, 3) := by decide +kernel
theorem dd_139_20 : decode (mB 139) 20 = .ok (.ifCond .eq 24, 3) := by decide +kernel
theorem dd_139_23 : decode (mB 139) 23 = .ok (.iload_n 3, 1) := by decide +kernel
theorem dd_139_24 : decode (mB 139) 24 = .ok (.invokestatic 213, 3) := by decide +kernel
theorem dd_139_27 : decode (mB 139) 27 = .ok (.ifCond .eq 17, 3) := by decide +kernel
theorem dd_139_30 : decode (mB 139) 30 = .ok (.iload 4, 2) := by decide +kernel
theorem dd_139_32 : decode (mB 139) 32 = .ok (.i2l, 1) := by decide +kernel
theorem dd_139_33 : decode (mB 139) 33 = .ok (.iload_n 3, 1) := by decide +kernel
theorem dd_139_34 : decode (mB 139) 34 = .ok (.i2l, 1) := by decide +kernel
theorem dd_139_35 : decode (mB 139) 35 = .ok (.ldc2_w 206, 3) := by decide +kernel
theorem dd_139_38 : decode (mB 139) 38 = .ok (.invokestatic 183, 3) := by decide +kernel
theorem dd_139_41 : decode (mB 139) 41 = .ok (.ifCond .ne 6, 3) := by decide +kernel
theorem dd_139_44 : decode (mB 139) 44 = .ok (.ldc 200, 2) := by decide +kernel
theorem dd_139_46 : decode (mB 139) 46 = .ok (.ireturn, 1) := by decide +kernel
theorem dd_139_47 : decode (mB 139) 47 = .ok (.aload_n 0, 1) := by decide +kernel
theorem dd_139_48 : decode (mB 139) 48 = .ok (.getfield 216, 3) := by decide +kernel
theorem dd_139_51 : decode (mB 139) 51 = .ok (.bipush 30, 2) := by decide +kernel
theorem dd_139_53 : decode (mB 139) 53 = .ok (.if_icmp .ne 6, 3) := by decide +kernel
theorem dd_139_56 : decode (mB 139) 56 = .ok (.ldc 201, 2) := by decide +kernel
theorem dd_139_58 : decode (mB 139) 58 = .ok (.ireturn, 1) := by decide +kernel
theorem dd_139_59 : decode (mB 139) 59 = .ok (.aload_n 0, 1) := by decide +kernel
theorem dd_139_60 : decode (mB 139) 60 = .ok (.getfield 19, 3) := by decide +kernel
theorem dd_139_63 : decode (mB 139) 63 = .ok (.aload_n 0, 1) := by decide +kernel
theorem dd_139_64 : decode (mB 139) 64 = .ok (.getfield 216, 3) := by decide +kernel
theorem dd_139_67 : decode (mB 139) 67 = .ok (.iload_n 1, 1) := by decide +kernel
theorem dd_139_68 : decode (mB 139) 68 = .ok (.iastore, 1) := by decide +kernel
theorem dd_139_69 : decode (mB 139) 69 = .ok (.aload_n 0, 1) := by decide +kernel
theorem dd_139_70 : decode (mB 139) 70 = .ok (.getfield 22, 3) := by decide +kernel
theorem dd_139_73 : decode (mB 139) 73 = .ok (.aload_n 0, 1) := by decide +kernel
theorem dd_139_74 : decode (mB 139) 74 = .ok (.getfield 216, 3) := by decide +kernel
theorem dd_139_77 : decode (mB 139) 77 = .ok (.iload_n 2, 1) := by decide +kernel
theorem dd_139_78 : decode (mB 139) 78 = .ok (.iastore, 1) := by decide +kernel
theorem dd_139_79 : decode (mB 139) 79 = .ok (.aload_n 0, 1) := by decide +kernel
theorem dd_139_80 : decode (mB 139) 80 = .ok (.getfield 25, 3) := by decide +kernel
theorem dd_139_83 : decode (mB 139) 83 = .ok (.aload_n 0, 1) := by decide +kernel
theorem dd_139_84 : decode (mB 139) 84 = .ok (.getfield 216, 3) := by decide +kernel
theorem dd_139_87 : decode (mB 139) 87 = .ok (.iload_n 3, 1) := by decide +kernel
theorem dd_139_88 : decode (mB 139) 88 = .ok (.iastore, 1) := by decide +kernel
theorem dd_139_89 : decode (mB 139) 89 = .ok (.aload_n 0, 1) := by decide +kernel
theorem dd_139_90 : decode (mB 139) 90 = .ok (.getfield 28, 3) := by decide +kernel
theorem dd_139_93 : decode (mB 139) 93 = .ok (.aload_n 0, 1) := by decide +kernel
theorem dd_139_94 : decode (mB 139) 94 = .ok (.getfield 216, 3) := by decide +kernel
theorem dd_139_97 : decode (mB 139) 97 = .ok (.iload 4, 2) := by decide +kernel
theorem dd_139_99 : decode (mB 139) 99 = .ok (.iastore, 1) := by decide +kernel
theorem dd_139_100 : decode (mB 139) 100 = .ok (.aload_n 0, 1) := by decide +kernel
theorem dd_139_101 : decode (mB 139) 101 = .ok (.dup, 1) := by decide +kernel
theorem dd_139_102 : decode (mB 139) 102 = .ok (.getfield 216, 3) := by decide +kernel
theorem dd_139_105 : decode (mB 139) 105 = .ok (.iconst 1, 1) := by decide +kernel
theorem dd_139_106 : decode (mB 139) 106 = .ok (.iadd, 1) := by decide +kernel
theorem dd_139_107 : decode (mB 139) 107 = .ok (.putfield 216, 3) := by decide +kernel
theorem dd_139_110 : decode (mB 139) 110 = .ok (.aload_n 0, 1) := by decide +kernel
theorem dd_139_111 : decode (mB 139) 111 = .ok (.getfield 216, 3) := by decide +kernel
theorem dd_139_114 : decode (mB 139) 114 = .ok (.ireturn, 1) := by decide +kernel
theorem dd_140_0 : decode (mB 140) 0 = .ok (.iload_n 1, 1) := by decide +kernel
theorem dd_140_1 : decode (mB 140) 1 = .ok (.i2l, 1) := by decide +kernel
theorem dd_140_2 : decode (mB 140) 2 = .ok (.lconst 0, 1) := by decide +kernel
theorem dd_140_3 : decode (mB 140) 3 = .ok (.aload_n 0, 1) := by decide +kernel
theorem dd_140_4 : decode (mB 140) 4 = .ok (.getfield 187, 3) := by decide +kernel
theorem dd_140_7 : decode (mB 140) 7 = .ok (.iconst 1, 1) := by decide +kernel
theorem dd_140_8 : decode (mB 140) 8 = .ok (.isub, 1) := by decide +kernel
theorem dd_140_9 : decode (mB 140) 9 = .ok (.i2l, 1) := by decide +kernel
theorem dd_140_10 : decode (mB 140) 10 = .ok (.invokestatic 183, 3) := by decide +kernel
theorem dd_140_13 : decode (mB 140) 13 = .ok (.ifCond .ne 7, 3) := by decide +kernel
theorem dd_140_16 : decode (mB 140) 16 = .ok (.iconst 1, 1) := by decide +kernel
theorem dd_140_17 : decode (mB 140) 17 = .ok (.goto 4, 3) := by decide +kernel
theorem dd_140_20 : decode (mB 140) 20 = .ok (.iconst 0, 1) := by decide +kernel
theorem dd_140_21 : decode (mB 140) 21 = .ok (.ireturn, 1) := by decide +kernel
theorem dd_141_0 : decode (mB 141) 0 = .ok (.iload_n 0, 1) := by decide +kernel
theorem dd_141_1 : decode (mB 141) 1 = .ok (.i2l, 1) := by decide +kernel
theorem dd_141_2 : decode (mB 141) 2 = .ok (.lconst 0, 1) := by decide +kernel
theorem dd_141_3 : decode (mB 141) 3 = .ok (.ldc2_w 206, 3) := by decide +kernel
theorem dd_141_6 : decode (mB 141) 6 = .ok (.invokestatic 183, 3) := by decide +kernel
theorem dd_141_9 : decode (mB 141) 9 = .ok (.ireturn, 1) := by decide +kernel
theorem dd_142_0 : decode (mB 142) 0 = .ok (.iload_n 1, 1) := by decide +kernel
theorem dd_142_1 : decode (mB 142) 1 = .ok (.invokestatic 192, 3) := by decide +kernel
theorem dd_142_4 : decode (mB 142) 4 = .ok (.ifCond .ne 6, 3) := by decide +kernel
theorem dd_142_7 : decode (mB 142) 7 = .ok (.ldc 196, 2) := by decide +kernel
theorem dd_142_9 : decode (mB 142) 9 = .ok (.ireturn, 1) := by decide +kernel
theorem dd_142_10 : decode (mB 142) 10 = .ok (.iload_n 2, 1) := by decide +kernel
theorem dd_142_11 : decode (mB 142) 11 = .ok (.i2l, 1) := by decide +kernel
theorem dd_142_12 : decode (mB 142) 12 = .ok (.lconst 0, 1) := by decide +kernel
theorem dd_142_13 : decode (mB 142) 13 = .ok (.ldc2_w 219, 3) := by decide +kernel
theorem dd_142_16 : decode (mB 142) 16 = .ok (.invokestatic 183, 3) := by decide +kernel
theorem dd_142_19 : decode (mB 142) 19 = .ok (.ifCond .ne 6, 3) := by decide +kernel
theorem dd_142_22 : decode (mB 142) 22 = .ok (.ldc 200, 2) := by decide +kernel
theorem dd_142_24 : decode (mB 142) 24 = .ok (.ireturn, 1) := by decide +kernel
theorem dd_142_25 : decode (mB 142) 25 = .ok (.aload_n 0, 1) := by decide +kernel
theorem dd_142_26 : decode (mB 142) 26 = .ok (.getfield 31, 3) := by decide +kernel
theorem dd_142_29 : decode (mB 142) 29 = .ok (.iload_n 1, 1) := by decide +kernel
theorem dd_142_30 : decode (mB 142) 30 = .ok (.iaload, 1) := by decide +kernel
theorem dd_142_31 : decode (mB 142) 31 = .ok (.istore_n 3, 1) := by decide +kernel
theorem dd_142_32 : decode (mB 142) 32 = .ok (.aload_n 0, 1) := by decide +kernel
theorem dd_142_33 : decode (mB 142) 33 = .ok (.getfield 31, 3) := by decide +kernel
theorem dd_142_36 : decode (mB 142) 36 = .ok (.iload_n 1, 1) := by decide +kernel
theorem dd_142_37 : decode (mB 142) 37 = .ok (.iload_n 2, 1) := by decide +kernel
theorem dd_142_38 : decode (mB 142) 38 = .ok (.iastore, 1) := by decide +kernel
theorem dd_142_39 : decode (mB 142) 39 = .ok (.iload_n 3, 1) := by decide +kernel
theorem dd_142_40 : decode (mB 142) 40 = .ok (.ireturn, 1) := by decide +kernel
theorem dd_143_0 : decode (mB 143) 0 = .ok (.iload_n 1, 1) := by decide +kernel
theorem dd_143_1 : decode (mB 143) 1 = .ok (.invokestatic 192, 3) := by decide +kernel
theorem dd_143_4 : decode (mB 143) 4 = .ok (.ifCond .eq 10, 3) := by decide +kernel
theorem dd_143_7 : decode (mB 143) 7 = .ok (.iload_n 2, 1) := by decide +kernel
theorem dd_143_8 : decode (mB 143) 8 = .ok (.invokestatic 192, 3) := by decide +kernel
theorem dd_143_11 : decode (mB 143) 11 = .ok (.ifCond .ne 6, 3) := by decide +kernel
theorem dd_143_14 : decode (mB 143) 14 = .ok (.ldc 196, 2) := by decide +kernel
theorem dd_143_16 : decode (mB 143) 16 = .ok (.ireturn, 1) := by decide +kernel
theorem dd_143_17 : decode (mB 143) 17 = .ok (.iload_n 1, 1) := by decide +kernel
theorem dd_143_18 : decode (mB 143) 18 = .ok (.iload_n 2, 1) := by decide +kernel
theorem dd_143_19 : decode (mB 143) 19 = .ok (.if_icmp .eq 15, 3) := by decide +kernel
theorem dd_143_22 : decode (mB 143) 22 = .ok (.iload_n 3, 1) := by decide +kernel
theorem dd_143_23 : decode (mB 143) 23 = .ok (.i2l, 1) := by decide +kernel
theorem dd_143_24 : decode (mB 143) 24 = .ok (.lconst 1, 1) := by decide +kernel
theorem dd_143_25 : decode (mB 143) 25 = .ok (.ldc2_w 254, 3) := by decide +kernel
theorem dd_143_28 : decode (mB 143) 28 = .ok (.invokestatic 183, 3) := by decide +kernel
theorem dd_143_31 : decode (mB 143) 31 = .ok (.ifCond .ne 6, 3) := by decide +kernel
theorem dd_143_34 : decode (mB 143) 34 = .ok (.ldc 200, 2) := by decide +kernel
theorem dd_143_36 : decode (mB 143) 36 = .ok (.ireturn, 1) := by decide +kernel
theorem dd_143_37 : decode (mB 143) 37 = .ok (.aload_n 0, 1) := by decide +kernel
theorem dd_143_38 : decode (mB 143) 38 = .ok (.invokevirtual 256, 3) := by decide +kernel
theorem dd_143_41 : decode (mB 143) 41 = .ok (.aload_n 0, 1) := by decide +kernel
theorem dd_143_42 : decode (mB 143) 42 = .ok (.iload_n 1, 1) := by decide +kernel
theorem dd_143_43 : decode (mB 143) 43 = .ok (.iload_n 2, 1) := by decide +kernel
theorem dd_143_44 : decode (mB 143) 44 = .ok (.invokevirtual 259, 3) := by decide +kernel
theorem dd_143_47 : decode (mB 143) 47 = .ok (.iload 4, 2) := by decide +kernel
theorem dd_143_49 : decode (mB 143) 49 = .ok (.iadd, 1) := by decide +kernel
theorem dd_143_50 : decode (mB 143) 50 = .ok (.istore 6, 2) := by decide +kernel
theorem dd_143_52 : decode (mB 143) 52 = .ok (.iload 4, 2) := by decide +kernel
theorem dd_143_54 : decode (mB 143) 54 = .ok (.ifCond .lt 22, 3) := by decide +kernel
theorem dd_143_57 : decode (mB 143) 57 = .ok (.iload 4, 2) := by decide +kernel
theorem dd_143_59 : decode (mB 143) 59 = .ok (.aload_n 0, 1) := by decide +kernel
theorem dd_143_60 : decode (mB 143) 60 = .ok (.iload_n 1, 1) := by decide +kernel
theorem dd_143_61 : decode (mB 143) 61 = .ok (.iload_n 2, 1) := by decide +kernel
theorem dd_143_62 : decode (mB 143) 62 = .ok (.iload_n 3, 1) := by decide +kernel
theorem dd_143_63 : decode (mB 143) 63 = .ok (.invokevirtual 262, 3) := by decide +kernel
theorem dd_143_66 : decode (mB 143) 66 = .ok (.aload_n 0, 1) := by decide +kernel
theorem dd_143_67 : decode (mB 143) 67 = .ok (.iload_n 1, 1) := by decide +kernel
theorem dd_143_68 : decode (mB 143) 68 = .ok (.iload_n 2, 1) := by decide +kernel
theorem dd_143_69 : decode (mB 143) 69 = .ok (.invokevirtual 259, 3) := by decide +kernel
theorem dd_143_72 : decode (mB 143) 72 = .ok (.isub, 1) := by decide +kernel
theorem dd_143_73 : decode (mB 143) 73 = .ok (.if_icmp .lt 5, 3) := by decide +kernel
theorem dd_143_76 : decode (mB 143) 76 = .ok (.iconst (-1), 1) := by decide +kernel
theorem dd_143_77 : decode (mB 143) 77 = .ok (.ireturn, 1) := by decide +kernel
theorem dd_143_78 : decode (mB 143) 78 = .ok (.iload 5, 2) := by decide +kernel
theorem dd_143_80 : decode (mB 143) 80 = .ok (.iconst (-1), 1) := by decide +kernel
theorem dd_143_81 : decode (mB 143) 81 = .ok (.if_icmp .ne 13, 3) := by decide +kernel
theorem dd_143_84 : decode (mB 143) 84 = .ok (.aload_n 0, 1) := by decide +kernel
theorem dd_143_85 : decode (mB 143) 85 = .ok (.getfield 40, 3) := by decide +kernel
theorem dd_143_88 : decode (mB 143) 88 = .ok (.iload 6, 2) := by decide +kernel
theorem dd_143_90 : decode (mB 143) 90 = .ok (.iaload, 1) := by decide +kernel
theorem dd_143_91 : decode (mB 143) 91 = .ok (.goto 34, 3) := by decide +kernel
theorem dd_143_94 : decode (mB 143) 94 = .ok (.iload 5, 2) := by decide +kernel
theorem dd_143_96 : decode (mB 143) 96 = .ok (.i2l, 1) := by decide +kernel
theorem dd_143_97 : decode (mB 143) 97 = .ok (.lconst 0, 1) := by decide +kernel
theorem dd_143_98 : decode (mB 143) 98 = .ok (.aload_n 0, 1) := by decide +kernel
theorem dd_143_99 : decode (mB 143) 99 = .ok (.iload 6, 2) := by decide +kernel
theorem dd_143_101 : decode (mB 143) 101 = .ok (.invokevirtual 221, 3) := by decide +kernel
theorem dd_143_104 : decode (mB 143) 104 = .ok (.iconst 1, 1) := by decide +kernel
theorem dd_143_105 : decode (mB 143) 105 = .ok (.isub, 1) := by decide +kernel
theorem dd_143_106 : decode (mB 143) 106 = .ok (.i2l, 1) := by decide +kernel
theorem dd_143_107 : decode (mB 143) 107 = .ok (.invokestatic 183, 3) := by decide +kernel
theorem dd_143_110 : decode (mB 143) 110 = .ok (.ifCond .eq 14, 3) := by decide +kernel
theorem dd_143_113 : decode (mB 143) 113 = .ok (.aload_n 0, 1) := by decide +kernel
theorem dd_143_114 : decode (mB 143) 114 = .ok (.iload 6, 2) := by decide +kernel
theorem dd_143_116 : decode (mB 143) 116 = .ok (.iload 5, 2) := by decide +kernel
theorem dd_143_118 : decode (mB 143) 118 = .ok (.invokevirtual 266, 3) := by decide +kernel
theorem dd_143_121 : decode (mB 143) 121 = .ok (.goto 4, 3) := by decide +kernel
theorem dd_143_124 : decode (mB 143) 124 = .ok (.iconst (-1), 1) := by decide +kernel
theorem dd_143_125 : decode (mB 143) 125 = .ok (.ireturn, 1) := by decide +kernel
theorem dd_144_0 : decode (mB 144) 0 = .ok (.aload_n 0, 1) := by decide +kernel
theorem dd_144_1 : decode (mB 144) 1 = .ok (.getfield 202, 3) := by decide +kernel
theorem dd_144_4 : decode (mB 144) 4 = .ok (.ifCond .eq 4, 3) := by decide +kernel
theorem dd_144_7 : decode (mB 144) 7 = .ok (.return_, 1) := by decide +kernel
theorem dd_144_8 : decode (mB 144) 8 = .ok (.aload_n 0, 1) := by decide +kernel
theorem dd_144_9 : decode (mB 144) 9 = .ok (.iconst 1, 1) := by decide +kernel
theorem dd_144_10 : decode (mB 144) 10 = .ok (.putfield 202, 3) := by decide +kernel
theorem dd_144_13 : decode (mB 144) 13 = .ok (.aload_n 0, 1) := by decide +kernel
theorem dd_144_14 : decode (mB 144) 14 = .ok (.iconst 0, 1) := by decide +kernel
theorem dd_144_15 : decode (mB 144) 15 = .ok (.putfield 225, 3) := by decide +kernel
theorem dd_144_18 : decode (mB 144) 18 = .ok (.iconst 0, 1) := by decide +kernel
theorem dd_144_19 : decode (mB 144) 19 = .ok (.istore_n 1, 1) := by decide +kernel
theorem dd_144_20 : decode (mB 144) 20 = .ok (.iload_n 1, 1) := by decide +kernel
theorem dd_144_21 : decode (mB 144) 21 = .ok (.bipush 8, 2) := by decide +kernel
theorem dd_144_23 : decode (mB 144) 23 = .ok (.if_icmp .ge 14, 3) := by decide +kernel
theorem dd_144_26 : decode (mB 144) 26 = .ok (.aload_n 0, 1) := by decide +kernel
theorem dd_144_27 : decode (mB 144) 27 = .ok (.iload_n 1, 1) := by decide +kernel
theorem dd_144_28 : decode (mB 144) 28 = .ok (.invokevirtual 247, 3) := by decide +kernel
theorem dd_144_31 : decode (mB 144) 31 = .ok (.iinc 1 1, 3) := by decide +kernel
theorem dd_144_34 : decode (mB 144) 34 = .ok (.goto (-14), 3) := by decide +kernel
theorem dd_144_37 : decode (mB 144) 37 = .ok (.aload_n 0, 1) := by decide +kernel
theorem dd_144_38 : decode (mB 144) 38 = .ok (.getfield 225, 3) := by decide +kernel
theorem dd_144_41 : decode (mB 144) 41 = .ok (.iconst 2, 1) := by decide +kernel
theorem dd_144_42 : decode (mB 144) 42 = .ok (.idiv, 1) := by decide +kernel
theorem dd_144_43 : decode (mB 144) 43 = .ok (.istore_n 1, 1) := by decide +kernel
theorem dd_144_44 : decode (mB 144) 44 = .ok (.iload_n 1, 1) := by decide +kernel
theorem dd_144_45 : decode (mB 144) 45 = .ok (.ifCond .lt 18, 3) := by decide +kernel
theorem dd_144_48 : decode (mB 144) 48 = .ok (.aload_n 0, 1) := by decide +kernel
theorem dd_144_49 : decode (mB 144) 49 = .ok (.iload_n 1, 1) := by decide +kernel
theorem dd_144_50 : decode (mB 144) 50 = .ok (.aload_n 0, 1) := by decide +kernel
theorem dd_144_51 : decode (mB 144) 51 = .ok (.getfield 225, 3) := by decide +kernel
theorem dd_144_54 : decode (mB 144) 54 = .ok (.invokevirtual 251, 3) := by decide +kernel
theorem dd_144_57 : decode (mB 144) 57 = .ok (.iinc 1 (-1), 3) := by decide +kernel
theorem dd_144_60 : decode (mB 144) 60 = .ok (.goto (-16), 3) := by decide +kernel
theorem dd_144_63 : decode (mB 144) 63 = .ok (.aload_n 0, 1) := by decide +kernel
theorem dd_144_64 : decode (mB 144) 64 = .ok (.getfield 225, 3) := by decide +kernel
theorem dd_144_67 : decode (mB 144) 67 = .ok (.iconst 1, 1) := by decide +kernel
theorem dd_144_68 : decode (mB 144) 68 = .ok (.isub, 1) := by decide +kernel
theorem dd_144_69 : decode (mB 144) 69 = .ok (.istore_n 1, 1) := by decide +kernel
theorem dd_144_70 : decode (mB 144) 70 = .ok (.iload_n 1, 1) := by decide +kernel
theorem dd_144_71 : decode (mB 144) 71 = .ok (.ifCond .le 21, 3) := by decide +kernel
theorem dd_144_74 : decode (mB 144) 74 = .ok (.aload_n 0, 1) := by decide +kernel
theorem dd_144_75 : decode (mB 144) 75 = .ok (.iconst 0, 1) := by decide +kernel
theorem dd_144_76 : decode (mB 144) 76 = .ok (.iload_n 1, 1) := by decide +kernel
theorem dd_144_77 : decode (mB 144) 77 = .ok (.invokevirtual 243, 3) := by decide +kernel
theorem dd_144_80 : decode (mB 144) 80 = .ok (.aload_n 0, 1) := by decide +kernel
theorem dd_144_81 : decode (mB 144) 81 = .ok (.iconst 0, 1) := by decide +kernel
theorem dd_144_82 : decode (mB 144) 82 = .ok (.iload_n 1, 1) := by decide +kernel
theorem dd_144_83 : decode (mB 144) 83 = .ok (.invokevirtual 251, 3) := by decide +kernel
theorem dd_144_86 : decode (mB 144) 86 = .ok (.iinc 1 (-1), 3) := by decide +kernel
theorem dd_144_89 : decode (mB 144) 89 = .ok (.goto (-19), 3) := by decide +kernel
theorem dd_144_92 : decode (mB 144) 92 = .ok (.iconst 0, 1) := by decide +kernel
theorem dd_144_93 : decode (mB 144) 93 = .ok (.istore_n 1, 1) := by decide +kernel
theorem dd_144_94 : decode (mB 144) 94 = .ok (.iconst 0, 1) := by decide +kernel
theorem dd_144_95 : decode (mB 144) 95 = .ok (.istore_n 2, 1) := by decide +kernel
theorem dd_144_96 : decode (mB 144) 96 = .ok (.iload_n 2, 1) := by decide +kernel
theorem dd_144_97 : decode (mB 144) 97 = .ok (.bipush 64, 2) := by decide +kernel
theorem dd_144_99 : decode (mB 144) 99 = .ok (.if_icmp .ge 40, 3) := by decide +kernel
theorem dd_144_102 : decode (mB 144) 102 = .ok (.aload_n 0, 1) := by decide +kernel
theorem dd_144_103 : decode (mB 144) 103 = .ok (.getfield 43, 3) := by decide +kernel
theorem dd_144_106 : decode (mB 144) 106 = .ok (.iload_n 2, 1) := by decide +kernel
theorem dd_144_107 : decode (mB 144) 107 = .ok (.iload_n 1, 1) := by decide +kernel
theorem dd_144_108 : decode (mB 144) 108 = .ok (.iastore, 1) := by decide +kernel
theorem dd_144_109 : decode (mB 144) 109 = .ok (.iload_n 1, 1) := by decide +kernel
theorem dd_144_110 : decode (mB 144) 110 = .ok (.aload_n 0, 1) := by decide +kernel
theorem dd_144_111 : decode (mB 144) 111 = .ok (.getfield 225, 3) := by decide +kernel
theorem dd_144_114 : decode (mB 144) 114 = .ok (.if_icmp .ge 19, 3) := by decide +kernel
theorem dd_144_117 : decode (mB 144) 117 = .ok (.aload_n 0, 1) := by decide +kernel
theorem dd_144_118 : decode (mB 144) 118 = .ok (.getfield 34, 3) := by decide +kernel
theorem dd_144_121 : decode (mB 144) 121 = .ok (.iload_n 1, 1) := by decide +kernel
theorem dd_144_122 : decode (mB 144) 122 = .ok (.iaload, 1) := by decide +kernel
theorem dd_144_123 : decode (mB 144) 123 = .ok (.iload_n 2, 1) := by decide +kernel
theorem dd_144_124 : decode (mB 144) 124 = .ok (.if_icmp .ne 9, 3) := by decide +kernel
theorem dd_144_127 : decode (mB 144) 127 = .ok (.iinc 1 1, 3) := by decide +kernel
theorem dd_144_130 : decode (mB 144) 130 = .ok (.goto (-21), 3) := by decide +kernel
theorem dd_144_133 : decode (mB 144) 133 = .ok (.iinc 2 1, 3) := by decide +kernel
theorem dd_144_136 : decode (mB 144) 136 = .ok (.goto (-40), 3) := by decide +kernel
theorem dd_144_139 : decode (mB 144) 139 = .ok (.aload_n 0, 1) := by decide +kernel
theorem dd_144_140 : decode (mB 144) 140 = .ok (.getfield 43, 3) := by decide +kernel
theorem dd_144_143 : decode (mB 144) 143 = .ok (.bipush 64, 2) := by decide +kernel
theorem dd_144_145 : decode (mB 144) 145 = .ok (.iload_n 1, 1) := by decide +kernel
theorem dd_144_146 : decode (mB 144) 146 = .ok (.iastore, 1) := by decide +kernel
theorem dd_144_147 : decode (mB 144) 147 = .ok (.return_, 1) := by decide +kernel
theorem dd_145_0 : decode (mB 145) 0 = .ok (.aload_n 0, 1) := by decide +kernel
theorem dd_145_1 : decode (mB 145) 1 = .ok (.getfield 187, 3) := by decide +kernel
theorem dd_145_4 : decode (mB 145) 4 = .ok (.aload_n 0, 1) := by decide +kernel
theorem dd_145_5 : decode (mB 145) 5 = .ok (.getfield 228, 3) := by decide +kernel
theorem dd_145_8 : decode (mB 145) 8 = .ok (.iadd, 1) := by decide +kernel
theorem dd_145_9 : decode (mB 145) 9 = .ok (.istore_n 2, 1) := by decide +kernel
theorem dd_145_10 : decode (mB 145) 10 = .ok (.iconst 0, 1) := by decide +kernel
theorem dd_145_11 : decode (mB 145) 11 = .ok (.istore_n 3, 1) := by decide +kernel
theorem dd_145_12 : decode (mB 145) 12 = .ok (.iload_n 3, 1) := by decide +kernel
theorem dd_145_13 : decode (mB 145) 13 = .ok (.iload_n 2, 1) := by decide +kernel
theorem dd_145_14 : decode (mB 145) 14 = .ok (.if_icmp .ge 197, 3) := by decide +kernel
theorem dd_145_17 : decode (mB 145) 17 = .ok (.aload_n 0, 1) := by decide +kernel
theorem dd_145_18 : decode (mB 145) 18 = .ok (.iload_n 3, 1) := by decide +kernel
theorem dd_145_19 : decode (mB 145) 19 = .ok (.iload_n 1, 1) := by decide +kernel
theorem dd_145_20 : decode (mB 145) 20 = .ok (.invokevirtual 231, 3) := by decide +kernel
theorem dd_145_23 : decode (mB 145) 23 = .ok (.istore 4, 2) := by decide +kernel
theorem dd_145_25 : decode (mB 145) 25 = .ok (.iload 4, 2) := by decide +kernel
theorem dd_145_27 : decode (mB 145) 27 = .ok (.ifCond .lt 178, 3) := by decide +kernel
theorem dd_145_30 : decode (mB 145) 30 = .ok (.aload_n 0, 1) := by decide +kernel
theorem dd_145_31 : decode (mB 145) 31 = .ok (.iload_n 1, 1) := by decide +kernel
theorem dd_145_32 : decode (mB 145) 32 = .ok (.iload 4, 2) := by decide +kernel
theorem dd_145_34 : decode (mB 145) 34 = .ok (.iload_n 3, 1) := by decide +kernel
