theorem d_X5_ofTwo_4 : decode c_X5_ofTwo 4 = .ok (.ifCond .ne 8, 3) := by decide +kernel
theorem d_X5_ofTwo_7 : decode c_X5_ofTwo 7 = .ok (.lload_n 1, 1) := by decide +kernel
theorem d_X5_ofTwo_8 : decode c_X5_ofTwo 8 = .ok (.invokestatic 25, 3) := by decide +kernel
theorem d_X5_ofTwo_11 : decode c_X5_ofTwo 11 = .ok (.lreturn, 1) := by decide +kernel
theorem d_X5_ofTwo_12 : decode c_X5_ofTwo 12 = .ok (.lload_n 3, 1) := by decide +kernel
theorem d_X5_ofTwo_13 : decode c_X5_ofTwo 13 = .ok (.invokestatic 19, 3) := by decide +kernel
theorem d_X5_ofTwo_16 : decode c_X5_ofTwo 16 = .ok (.ifCond .ne 8, 3) := by decide +kernel
theorem d_X5_ofTwo_19 : decode c_X5_ofTwo 19 = .ok (.lload_n 3, 1) := by decide +kernel
theorem d_X5_ofTwo_20 : decode c_X5_ofTwo 20 = .ok (.invokestatic 25, 3) := by decide +kernel
theorem d_X5_ofTwo_23 : decode c_X5_ofTwo 23 = .ok (.lreturn, 1) := by decide +kernel
theorem d_X5_ofTwo_24 : decode c_X5_ofTwo 24 = .ok (.iload_n 0, 1) := by decide +kernel
theorem d_X5_ofTwo_25 : decode c_X5_ofTwo 25 = .ok (.lload_n 1, 1) := by decide +kernel
theorem d_X5_ofTwo_26 : decode c_X5_ofTwo 26 = .ok (.lload_n 3, 1) := by decide +kernel
theorem d_X5_ofTwo_27 : decode c_X5_ofTwo 27 = .ok (.invokestatic 34, 3) := by decide +kernel
theorem d_X5_ofTwo_30 : decode c_X5_ofTwo 30 = .ok (.lstore 5, 2) := by decide +kernel
theorem d_X5_ofTwo_32 : decode c_X5_ofTwo 32 = .ok (.lload 5, 2) := by decide +kernel
theorem d_X5_ofTwo_34 : decode c_X5_ofTwo 34 = .ok (.invokestatic 19, 3) := by decide +kernel
theorem d_X5_ofTwo_37 : decode c_X5_ofTwo 37 = .ok (.ifCond .eq 8, 3) := by decide +kernel
theorem d_X5_ofTwo_40 : decode c_X5_ofTwo 40 = .ok (.lload 5, 2) := by decide +kernel
theorem d_X5_ofTwo_42 : decode c_X5_ofTwo 42 = .ok (.goto 6, 3) := by decide +kernel
theorem d_X5_ofTwo_45 : decode c_X5_ofTwo 45 = .ok (.ldc2_w 38, 3) := by decide +kernel
theorem d_X5_ofTwo_48 : decode c_X5_ofTwo 48 = .ok (.lreturn, 1) := by decide +kernel
theorem d_X5_ofInts_0 : decode c_X5_ofInts 0 = .ok (.iload_n 0, 1) := by decide +kernel
theorem d_X5_ofInts_1 : decode c_X5_ofInts 1 = .ok (.tableswitch 87 4 9 #[39, 43, 47, 51, 63, 75], 39) := by decide +kernel
theorem d_X5_ofInts_40 : decode c_X5_ofInts 40 = .ok (.lload_n 1, 1) := by decide +kernel
theorem d_X5_ofInts_41 : decode c_X5_ofInts 41 = .ok (.lload_n 3, 1) := by decide +kernel
theorem d_X5_ofInts_42 : decode c_X5_ofInts 42 = .ok (.ladd, 1) := by decide +kernel
theorem d_X5_ofInts_43 : decode c_X5_ofInts 43 = .ok (.lreturn, 1) := by decide +kernel
theorem d_X5_ofInts_44 : decode c_X5_ofInts 44 = .ok (.lload_n 1, 1) := by decide +kernel
theorem d_X5_ofInts_45 : decode c_X5_ofInts 45 = .ok (.lload_n 3, 1) := by decide +kernel
theorem d_X5_ofInts_46 : decode c_X5_ofInts 46 = .ok (.lsub, 1) := by decide +kernel
theorem d_X5_ofInts_47 : decode c_X5_ofInts 47 = .ok (.lreturn, 1) := by decide +kernel
theorem d_X5_ofInts_48 : decode c_X5_ofInts 48 = .ok (.lload_n 1, 1) := by decide +kernel
theorem d_X5_ofInts_49 : decode c_X5_ofInts 49 = .ok (.lload_n 3, 1) := by decide +kernel
theorem d_X5_ofInts_50 : decode c_X5_ofInts 50 = .ok (.lmul, 1) := by decide +kernel
theorem d_X5_ofInts_51 : decode c_X5_ofInts 51 = .ok (.lreturn, 1) := by decide +kernel
theorem d_X5_ofInts_52 : decode c_X5_ofInts 52 = .ok (.lload_n 1, 1) := by decide +kernel
theorem d_X5_ofInts_53 : decode c_X5_ofInts 53 = .ok (.lload_n 3, 1) := by decide +kernel
theorem d_X5_ofInts_54 : decode c_X5_ofInts 54 = .ok (.lcmp, 1) := by decide +kernel
theorem d_X5_ofInts_55 : decode c_X5_ofInts 55 = .ok (.ifCond .ge 7, 3) := by decide +kernel
theorem d_X5_ofInts_58 : decode c_X5_ofInts 58 = .ok (.lconst 1, 1) := by decide +kernel
theorem d_X5_ofInts_59 : decode c_X5_ofInts 59 = .ok (.goto 4, 3) := by decide +kernel
theorem d_X5_ofInts_62 : decode c_X5_ofInts 62 = .ok (.lconst 0, 1) := by decide +kernel
theorem d_X5_ofInts_63 : decode c_X5_ofInts 63 = .ok (.lreturn, 1) := by decide +kernel
theorem d_X5_ofInts_64 : decode c_X5_ofInts 64 = .ok (.lload_n 1, 1) := by decide +kernel
theorem d_X5_ofInts_65 : decode c_X5_ofInts 65 = .ok (.lload_n 3, 1) := by decide +kernel
theorem d_X5_ofInts_66 : decode c_X5_ofInts 66 = .ok (.lcmp, 1) := by decide +kernel
theorem d_X5_ofInts_67 : decode c_X5_ofInts 67 = .ok (.ifCond .ne 7, 3) := by decide +kernel
theorem d_X5_ofInts_70 : decode c_X5_ofInts 70 = .ok (.lconst 1, 1) := by decide +kernel
theorem d_X5_ofInts_71 : decode c_X5_ofInts 71 = .ok (.goto 4, 3) := by decide +kernel
theorem d_X5_ofInts_74 : decode c_X5_ofInts 74 = .ok (.lconst 0, 1) := by decide +kernel
theorem d_X5_ofInts_75 : decode c_X5_ofInts 75 = .ok (.lreturn, 1) := by decide +kernel
theorem d_X5_ofInts_76 : decode c_X5_ofInts 76 = .ok (.lload_n 1, 1) := by decide +kernel
theorem d_X5_ofInts_77 : decode c_X5_ofInts 77 = .ok (.lload_n 3, 1) := by decide +kernel
theorem d_X5_ofInts_78 : decode c_X5_ofInts 78 = .ok (.lcmp, 1) := by decide +kernel
theorem d_X5_ofInts_79 : decode c_X5_ofInts 79 = .ok (.ifCond .ge 7, 3) := by decide +kernel
theorem d_X5_ofInts_82 : decode c_X5_ofInts 82 = .ok (.lload_n 1, 1) := by decide +kernel
theorem d_X5_ofInts_83 : decode c_X5_ofInts 83 = .ok (.goto 4, 3) := by decide +kernel
theorem d_X5_ofInts_86 : decode c_X5_ofInts 86 = .ok (.lload_n 3, 1) := by decide +kernel
theorem d_X5_ofInts_87 : decode c_X5_ofInts 87 = .ok (.lreturn, 1) := by decide +kernel
theorem d_X5_ofInts_88 : decode c_X5_ofInts 88 = .ok (.lload_n 1, 1) := by decide +kernel
theorem d_X5_ofInts_89 : decode c_X5_ofInts 89 = .ok (.lload_n 3, 1) := by decide +kernel
theorem d_X5_ofInts_90 : decode c_X5_ofInts 90 = .ok (.lcmp, 1) := by decide +kernel
theorem d_X5_ofInts_91 : decode c_X5_ofInts 91 = .ok (.ifCond .le 7, 3) := by decide +kernel
theorem d_X5_ofInts_94 : decode c_X5_ofInts 94 = .ok (.lload_n 1, 1) := by decide +kernel
theorem d_X5_ofInts_95 : decode c_X5_ofInts 95 = .ok (.goto 4, 3) := by decide +kernel
theorem d_X5_ofInts_98 : decode c_X5_ofInts 98 = .ok (.lload_n 3, 1) := by decide +kernel
theorem d_X5_ofInts_99 : decode c_X5_ofInts 99 = .ok (.lreturn, 1) := by decide +kernel
theorem d_X5_share_0 : decode c_X5_share 0 = .ok (.lload_n 0, 1) := by decide +kernel
theorem d_X5_share_1 : decode c_X5_share 1 = .ok (.invokestatic 19, 3) := by decide +kernel
theorem d_X5_share_4 : decode c_X5_share 4 = .ok (.ifCond .ne 8, 3) := by decide +kernel
theorem d_X5_share_7 : decode c_X5_share 7 = .ok (.lload_n 0, 1) := by decide +kernel
theorem d_X5_share_8 : decode c_X5_share 8 = .ok (.invokestatic 25, 3) := by decide +kernel
theorem d_X5_share_11 : decode c_X5_share 11 = .ok (.lreturn, 1) := by decide +kernel
theorem d_X5_share_12 : decode c_X5_share 12 = .ok (.lload_n 2, 1) := by decide +kernel
theorem d_X5_share_13 : decode c_X5_share 13 = .ok (.invokestatic 19, 3) := by decide +kernel
theorem d_X5_share_16 : decode c_X5_share 16 = .ok (.ifCond .ne 8, 3) := by decide +kernel
theorem d_X5_share_19 : decode c_X5_share 19 = .ok (.lload_n 2, 1) := by decide +kernel
theorem d_X5_share_20 : decode c_X5_share 20 = .ok (.invokestatic 25, 3) := by decide +kernel
theorem d_X5_share_23 : decode c_X5_share 23 = .ok (.lreturn, 1) := by decide +kernel
theorem d_X5_share_24 : decode c_X5_share 24 = .ok (.lload 4, 2) := by decide +kernel
theorem d_X5_share_26 : decode c_X5_share 26 = .ok (.invokestatic 19, 3) := by decide +kernel
theorem d_X5_share_29 : decode c_X5_share 29 = .ok (.ifCond .ne 9, 3) := by decide +kernel
theorem d_X5_share_32 : decode c_X5_share 32 = .ok (.lload 4, 2) := by decide +kernel
theorem d_X5_share_34 : decode c_X5_share 34 = .ok (.invokestatic 25, 3) := by decide +kernel
theorem d_X5_share_37 : decode c_X5_share 37 = .ok (.lreturn, 1) := by decide +kernel
theorem d_X5_share_38 : decode c_X5_share 38 = .ok (.lload 4, 2) := by decide +kernel
theorem d_X5_share_40 : decode c_X5_share 40 = .ok (.lconst 0, 1) := by decide +kernel
theorem d_X5_share_41 : decode c_X5_share 41 = .ok (.lcmp, 1) := by decide +kernel
theorem d_X5_share_42 : decode c_X5_share 42 = .ok (.ifCond .ne 7, 3) := by decide +kernel
theorem d_X5_share_45 : decode c_X5_share 45 = .ok (.ldc2_w 40, 3) := by decide +kernel
theorem d_X5_share_48 : decode c_X5_share 48 = .ok (.lreturn, 1) := by decide +kernel
theorem d_X5_share_49 : decode c_X5_share 49 = .ok (.lload_n 0, 1) := by decide +kernel
theorem d_X5_share_50 : decode c_X5_share 50 = .ok (.lload_n 2, 1) := by decide +kernel
theorem d_X5_share_51 : decode c_X5_share 51 = .ok (.lmul, 1) := by decide +kernel
theorem d_X5_share_52 : decode c_X5_share 52 = .ok (.lload 4, 2) := by decide +kernel
theorem d_X5_share_54 : decode c_X5_share 54 = .ok (.invokestatic 42, 3) := by decide +kernel
theorem d_X5_share_57 : decode c_X5_share 57 = .ok (.lstore 6, 2) := by decide +kernel
theorem d_X5_share_59 : decode c_X5_share 59 = .ok (.lload 6, 2) := by decide +kernel
theorem d_X5_share_61 : decode c_X5_share 61 = .ok (.invokestatic 19, 3) := by decide +kernel
theorem d_X5_share_64 : decode c_X5_share 64 = .ok (.ifCond .eq 8, 3) := by decide +kernel
theorem d_X5_share_67 : decode c_X5_share 67 = .ok (.lload 6, 2) := by decide +kernel
theorem d_X5_share_69 : decode c_X5_share 69 = .ok (.goto 6, 3) := by decide +kernel
theorem d_X5_share_72 : decode c_X5_share 72 = .ok (.ldc2_w 38, 3) := by decide +kernel
theorem d_X5_share_75 : decode c_X5_share 75 = .ok (.lreturn, 1) := by decide +kernel
theorem d_X5_rounded_0 : decode c_X5_rounded 0 = .ok (.lload_n 2, 1) := by decide +kernel
theorem d_X5_rounded_1 : decode c_X5_rounded 1 = .ok (.lconst 0, 1) := by decide +kernel
theorem d_X5_rounded_2 : decode c_X5_rounded 2 = .ok (.lcmp, 1) := by decide +kernel
theorem d_X5_rounded_3 : decode c_X5_rounded 3 = .ok (.ifCond .ne 5, 3) := by decide +kernel
theorem d_X5_rounded_6 : decode c_X5_rounded 6 = .ok (.lconst 0, 1) := by decide +kernel
theorem d_X5_rounded_7 : decode c_X5_rounded 7 = .ok (.lreturn, 1) := by decide +kernel
theorem d_X5_rounded_8 : decode c_X5_rounded 8 = .ok (.lload_n 0, 1) := by decide +kernel
theorem d_X5_rounded_9 : decode c_X5_rounded 9 = .ok (.lconst 0, 1) := by decide +kernel
theorem d_X5_rounded_10 : decode c_X5_rounded 10 = .ok (.lcmp, 1) := by decide +kernel
theorem d_X5_rounded_11 : decode c_X5_rounded 11 = .ok (.ifCond .ge 8, 3) := by decide +kernel
theorem d_X5_rounded_14 : decode c_X5_rounded 14 = .ok (.lload_n 0, 1) := by decide +kernel
theorem d_X5_rounded_15 : decode c_X5_rounded 15 = .ok (.lneg, 1) := by decide +kernel
theorem d_X5_rounded_16 : decode c_X5_rounded 16 = .ok (.goto 4, 3) := by decide +kernel
theorem d_X5_rounded_19 : decode c_X5_rounded 19 = .ok (.lload_n 0, 1) := by decide +kernel
theorem d_X5_rounded_20 : decode c_X5_rounded 20 = .ok (.lstore 4, 2) := by decide +kernel
theorem d_X5_rounded_22 : decode c_X5_rounded 22 = .ok (.lload_n 2, 1) := by decide +kernel
theorem d_X5_rounded_23 : decode c_X5_rounded 23 = .ok (.lconst 0, 1) := by decide +kernel
theorem d_X5_rounded_24 : decode c_X5_rounded 24 = .ok (.lcmp, 1) := by decide +kernel
theorem d_X5_rounded_25 : decode c_X5_rounded 25 = .ok (.ifCond .ge 8, 3) := by decide +kernel
theorem d_X5_rounded_28 : decode c_X5_rounded 28 = .ok (.lload_n 2, 1) := by decide +kernel
theorem d_X5_rounded_29 : decode c_X5_rounded 29 = .ok (.lneg, 1) := by decide +kernel
theorem d_X5_rounded_30 : decode c_X5_rounded 30 = .ok (.goto 4, 3) := by decide +kernel
theorem d_X5_rounded_33 : decode c_X5_rounded 33 = .ok (.lload_n 2, 1) := by decide +kernel
theorem d_X5_rounded_34 : decode c_X5_rounded 34 = .ok (.lstore 6, 2) := by decide +kernel
theorem d_X5_rounded_36 : decode c_X5_rounded 36 = .ok (.lload 4, 2) := by decide +kernel
theorem d_X5_rounded_38 : decode c_X5_rounded 38 = .ok (.lload 6, 2) := by decide +kernel
theorem d_X5_rounded_40 : decode c_X5_rounded 40 = .ok (.ldiv, 1) := by decide +kernel
theorem d_X5_rounded_41 : decode c_X5_rounded 41 = .ok (.lstore 8, 2) := by decide +kernel
theorem d_X5_rounded_43 : decode c_X5_rounded 43 = .ok (.ldc2_w 46, 3) := by decide +kernel
theorem d_X5_rounded_46 : decode c_X5_rounded 46 = .ok (.lload 4, 2) := by decide +kernel
theorem d_X5_rounded_48 : decode c_X5_rounded 48 = .ok (.lload 6, 2) := by decide +kernel
theorem d_X5_rounded_50 : decode c_X5_rounded 50 = .ok (.lrem, 1) := by decide +kernel
theorem d_X5_rounded_51 : decode c_X5_rounded 51 = .ok (.lmul, 1) := by decide +kernel
theorem d_X5_rounded_52 : decode c_X5_rounded 52 = .ok (.lload 6, 2) := by decide +kernel
theorem d_X5_rounded_54 : decode c_X5_rounded 54 = .ok (.lcmp, 1) := by decide +kernel
theorem d_X5_rounded_55 : decode c_X5_rounded 55 = .ok (.ifCond .lt 9, 3) := by decide +kernel
theorem d_X5_rounded_58 : decode c_X5_rounded 58 = .ok (.lload 8, 2) := by decide +kernel
theorem d_X5_rounded_60 : decode c_X5_rounded 60 = .ok (.lconst 1, 1) := by decide +kernel
theorem d_X5_rounded_61 : decode c_X5_rounded 61 = .ok (.ladd, 1) := by decide +kernel
theorem d_X5_rounded_62 : decode c_X5_rounded 62 = .ok (.lstore 8, 2) := by decide +kernel
theorem d_X5_rounded_64 : decode c_X5_rounded 64 = .ok (.lload_n 0, 1) := by decide +kernel
theorem d_X5_rounded_65 : decode c_X5_rounded 65 = .ok (.lconst 0, 1) := by decide +kernel
theorem d_X5_rounded_66 : decode c_X5_rounded 66 = .ok (.lcmp, 1) := by decide +kernel
theorem d_X5_rounded_67 : decode c_X5_rounded 67 = .ok (.ifCond .ge 7, 3) := by decide +kernel
theorem d_X5_rounded_70 : decode c_X5_rounded 70 = .ok (.iconst 1, 1) := by decide +kernel
theorem d_X5_rounded_71 : decode c_X5_rounded 71 = .ok (.goto 4, 3) := by decide +kernel
theorem d_X5_rounded_74 : decode c_X5_rounded 74 = .ok (.iconst 0, 1) := by decide +kernel
theorem d_X5_rounded_75 : decode c_X5_rounded 75 = .ok (.lload_n 2, 1) := by decide +kernel
theorem d_X5_rounded_76 : decode c_X5_rounded 76 = .ok (.lconst 0, 1) := by decide +kernel
theorem d_X5_rounded_77 : decode c_X5_rounded 77 = .ok (.lcmp, 1) := by decide +kernel
theorem d_X5_rounded_78 : decode c_X5_rounded 78 = .ok (.ifCond .ge 7, 3) := by decide +kernel
theorem d_X5_rounded_81 : decode c_X5_rounded 81 = .ok (.iconst 1, 1) := by decide +kernel
theorem d_X5_rounded_82 : decode c_X5_rounded 82 = .ok (.goto 4, 3) := by decide +kernel
theorem d_X5_rounded_85 : decode c_X5_rounded 85 = .ok (.iconst 0, 1) := by decide +kernel
theorem d_X5_rounded_86 : decode c_X5_rounded 86 = .ok (.if_icmp .ne 8, 3) := by decide +kernel
theorem d_X5_rounded_89 : decode c_X5_rounded 89 = .ok (.lload 8, 2) := by decide +kernel
theorem d_X5_rounded_91 : decode c_X5_rounded 91 = .ok (.goto 6, 3) := by decide +kernel
theorem d_X5_rounded_94 : decode c_X5_rounded 94 = .ok (.lload 8, 2) := by decide +kernel
theorem d_X5_rounded_96 : decode c_X5_rounded 96 = .ok (.lneg, 1) := by decide +kernel
theorem d_X5_rounded_97 : decode c_X5_rounded 97 = .ok (.lreturn, 1) := by decide +kernel
abbrev c_L_law : ByteArray := code
theorem d_L_law_0 : decode c_L_law 0 = .ok (.new 7, 3) := by decide +kernel
theorem d_L_law_3 : decode c_L_law 3 = .ok (.dup, 1) := by decide +kernel
theorem d_L_law_4 : decode c_L_law 4 = .ok (.invokespecial 9, 3) := by decide +kernel
theorem d_L_law_7 : decode c_L_law 7 = .ok (.astore_n 1, 1) := by decide +kernel
theorem d_L_law_8 : decode c_L_law 8 = .ok (.new 10, 3) := by decide +kernel
theorem d_L_law_11 : decode c_L_law 11 = .ok (.dup, 1) := by decide +kernel
theorem d_L_law_12 : decode c_L_law 12 = .ok (.invokespecial 12, 3) := by decide +kernel
theorem d_L_law_15 : decode c_L_law 15 = .ok (.astore_n 2, 1) := by decide +kernel
theorem d_L_law_16 : decode c_L_law 16 = .ok (.iconst 0, 1) := by decide +kernel
theorem d_L_law_17 : decode c_L_law 17 = .ok (.istore_n 3, 1) := by decide +kernel
theorem d_L_law_18 : decode c_L_law 18 = .ok (.iload_n 3, 1) := by decide +kernel
theorem d_L_law_19 : decode c_L_law 19 = .ok (.aload_n 0, 1) := by decide +kernel
theorem d_L_law_20 : decode c_L_law 20 = .ok (.arraylength, 1) := by decide +kernel
theorem d_L_law_21 : decode c_L_law 21 = .ok (.iconst 5, 1) := by decide +kernel
theorem d_L_law_22 : decode c_L_law 22 = .ok (.isub, 1) := by decide +kernel
theorem d_L_law_23 : decode c_L_law 23 = .ok (.if_icmp .gt 613, 3) := by decide +kernel
theorem d_L_law_26 : decode c_L_law 26 = .ok (.aload_n 0, 1) := by decide +kernel
theorem d_L_law_27 : decode c_L_law 27 = .ok (.iload_n 3, 1) := by decide +kernel
theorem d_L_law_28 : decode c_L_law 28 = .ok (.iaload, 1) := by decide +kernel
theorem d_L_law_29 : decode c_L_law 29 = .ok (.bipush 15, 2) := by decide +kernel
theorem d_L_law_31 : decode c_L_law 31 = .ok (.iand, 1) := by decide +kernel
theorem d_L_law_32 : decode c_L_law 32 = .ok (.tableswitch 598 0 15 #[80, 133, 166, 189, 232, 255, 298, 347, 381, 394, 417, 440, 484, 517, 541, 575], 80) := by decide +kernel
theorem d_L_law_112 : decode c_L_law 112 = .ok (.aload_n 1, 1) := by decide +kernel
theorem d_L_law_113 : decode c_L_law 113 = .ok (.aload_n 0, 1) := by decide +kernel
theorem d_L_law_114 : decode c_L_law 114 = .ok (.iload_n 3, 1) := by decide +kernel
theorem d_L_law_115 : decode c_L_law 115 = .ok (.iconst 1, 1) := by decide +kernel
theorem d_L_law_116 : decode c_L_law 116 = .ok (.iadd, 1) := by decide +kernel
theorem d_L_law_117 : decode c_L_law 117 = .ok (.iaload, 1) := by decide +kernel
theorem d_L_law_118 : decode c_L_law 118 = .ok (.aload_n 0, 1) := by decide +kernel
theorem d_L_law_119 : decode c_L_law 119 = .ok (.iload_n 3, 1) := by decide +kernel
theorem d_L_law_120 : decode c_L_law 120 = .ok (.iconst 2, 1) := by decide +kernel
theorem d_L_law_121 : decode c_L_law 121 = .ok (.iadd, 1) := by decide +kernel
theorem d_L_law_122 : decode c_L_law 122 = .ok (.iaload, 1) := by decide +kernel
theorem d_L_law_123 : decode c_L_law 123 = .ok (.aload_n 0, 1) := by decide +kernel
theorem d_L_law_124 : decode c_L_law 124 = .ok (.iload_n 3, 1) := by decide +kernel
theorem d_L_law_125 : decode c_L_law 125 = .ok (.iconst 3, 1) := by decide +kernel
theorem d_L_law_126 : decode c_L_law 126 = .ok (.iadd, 1) := by decide +kernel
theorem d_L_law_127 : decode c_L_law 127 = .ok (.iaload, 1) := by decide +kernel
theorem d_L_law_128 : decode c_L_law 128 = .ok (.aload_n 0, 1) := by decide +kernel
theorem d_L_law_129 : decode c_L_law 129 = .ok (.iload_n 3, 1) := by decide +kernel
theorem d_L_law_130 : decode c_L_law 130 = .ok (.iconst 4, 1) := by decide +kernel
theorem d_L_law_131 : decode c_L_law 131 = .ok (.iadd, 1) := by decide +kernel
theorem d_L_law_132 : decode c_L_law 132 = .ok (.iaload, 1) := by decide +kernel
theorem d_L_law_133 : decode c_L_law 133 = .ok (.invokevirtual 13, 3) := by decide +kernel
theorem d_L_law_136 : decode c_L_law 136 = .ok (.aload_n 2, 1) := by decide +kernel
theorem d_L_law_137 : decode c_L_law 137 = .ok (.aload_n 0, 1) := by decide +kernel
theorem d_L_law_138 : decode c_L_law 138 = .ok (.iload_n 3, 1) := by decide +kernel
theorem d_L_law_139 : decode c_L_law 139 = .ok (.iconst 1, 1) := by decide +kernel
theorem d_L_law_140 : decode c_L_law 140 = .ok (.iadd, 1) := by decide +kernel
theorem d_L_law_141 : decode c_L_law 141 = .ok (.iaload, 1) := by decide +kernel
theorem d_L_law_142 : decode c_L_law 142 = .ok (.aload_n 0, 1) := by decide +kernel
theorem d_L_law_143 : decode c_L_law 143 = .ok (.iload_n 3, 1) := by decide +kernel
theorem d_L_law_144 : decode c_L_law 144 = .ok (.iconst 2, 1) := by decide +kernel
theorem d_L_law_145 : decode c_L_law 145 = .ok (.iadd, 1) := by decide +kernel
theorem d_L_law_146 : decode c_L_law 146 = .ok (.iaload, 1) := by decide +kernel
theorem d_L_law_147 : decode c_L_law 147 = .ok (.aload_n 0, 1) := by decide +kernel
theorem d_L_law_148 : decode c_L_law 148 = .ok (.iload_n 3, 1) := by decide +kernel
theorem d_L_law_149 : decode c_L_law 149 = .ok (.iconst 3, 1) := by decide +kernel
theorem d_L_law_150 : decode c_L_law 150 = .ok (.iadd, 1) := by decide +kernel
theorem d_L_law_151 : decode c_L_law 151 = .ok (.iaload, 1) := by decide +kernel
theorem d_L_law_152 : decode c_L_law 152 = .ok (.aload_n 0, 1) := by decide +kernel
theorem d_L_law_153 : decode c_L_law 153 = .ok (.iload_n 3, 1) := by decide +kernel
theorem d_L_law_154 : decode c_L_law 154 = .ok (.iconst 4, 1) := by decide +kernel
theorem d_L_law_155 : decode c_L_law 155 = .ok (.iadd, 1) := by decide +kernel
theorem d_L_law_156 : decode c_L_law 156 = .ok (.iaload, 1) := by decide +kernel
theorem d_L_law_157 : decode c_L_law 157 = .ok (.invokevirtual 17, 3) := by decide +kernel
theorem d_L_law_160 : decode c_L_law 160 = .ok (.if_icmp .eq 470, 3) := by decide +kernel
theorem d_L_law_163 : decode c_L_law 163 = .ok (.iconst 0, 1) := by decide +kernel
theorem d_L_law_164 : decode c_L_law 164 = .ok (.ireturn, 1) := by decide +kernel
theorem d_L_law_165 : decode c_L_law 165 = .ok (.aload_n 1, 1) := by decide +kernel
theorem d_L_law_166 : decode c_L_law 166 = .ok (.aload_n 0, 1) := by decide +kernel
theorem d_L_law_167 : decode c_L_law 167 = .ok (.iload_n 3, 1) := by decide +kernel
theorem d_L_law_168 : decode c_L_law 168 = .ok (.iconst 1, 1) := by decide +kernel
theorem d_L_law_169 : decode c_L_law 169 = .ok (.iadd, 1) := by decide +kernel
theorem d_L_law_170 : decode c_L_law 170 = .ok (.iaload, 1) := by decide +kernel
theorem d_L_law_171 : decode c_L_law 171 = .ok (.aload_n 0, 1) := by decide +kernel
theorem d_L_law_172 : decode c_L_law 172 = .ok (.iload_n 3, 1) := by decide +kernel
theorem d_L_law_173 : decode c_L_law 173 = .ok (.iconst 2, 1) := by decide +kernel
theorem d_L_law_174 : decode c_L_law 174 = .ok (.iadd, 1) := by decide +kernel
theorem d_L_law_175 : decode c_L_law 175 = .ok (.iaload, 1) := by decide +kernel
theorem d_L_law_176 : decode c_L_law 176 = .ok (.invokevirtual 18, 3) := by decide +kernel
theorem d_L_law_179 : decode c_L_law 179 = .ok (.aload_n 2, 1) := by decide +kernel
theorem d_L_law_180 : decode c_L_law 180 = .ok (.aload_n 0, 1) := by decide +kernel
theorem d_L_law_181 : decode c_L_law 181 = .ok (.iload_n 3, 1) := by decide +kernel
theorem d_L_law_182 : decode c_L_law 182 = .ok (.iconst 1, 1) := by decide +kernel
theorem d_L_law_183 : decode c_L_law 183 = .ok (.iadd, 1) := by decide +kernel
theorem d_L_law_184 : decode c_L_law 184 = .ok (.iaload, 1) := by decide +kernel
theorem d_L_law_185 : decode c_L_law 185 = .ok (.aload_n 0, 1) := by decide +kernel
theorem d_L_law_186 : decode c_L_law 186 = .ok (.iload_n 3, 1) := by decide +kernel
theorem d_L_law_187 : decode c_L_law 187 = .ok (.iconst 2, 1) := by decide +kernel
theorem d_L_law_188 : decode c_L_law 188 = .ok (.iadd, 1) := by decide +kernel
theorem d_L_law_189 : decode c_L_law 189 = .ok (.iaload, 1) := by decide +kernel
theorem d_L_law_190 : decode c_L_law 190 = .ok (.invokevirtual 22, 3) := by decide +kernel
theorem d_L_law_193 : decode c_L_law 193 = .ok (.if_icmp .eq 437, 3) := by decide +kernel
theorem d_L_law_196 : decode c_L_law 196 = .ok (.iconst 0, 1) := by decide +kernel
theorem d_L_law_197 : decode c_L_law 197 = .ok (.ireturn, 1) := by decide +kernel
theorem d_L_law_198 : decode c_L_law 198 = .ok (.aload_n 1, 1) := by decide +kernel
theorem d_L_law_199 : decode c_L_law 199 = .ok (.aload_n 0, 1) := by decide +kernel
theorem d_L_law_200 : decode c_L_law 200 = .ok (.iload_n 3, 1) := by decide +kernel
theorem d_L_law_201 : decode c_L_law 201 = .ok (.iconst 1, 1) := by decide +kernel
theorem d_L_law_202 : decode c_L_law 202 = .ok (.iadd, 1) := by decide +kernel
theorem d_L_law_203 : decode c_L_law 203 = .ok (.iaload, 1) := by decide +kernel
theorem d_L_law_204 : decode c_L_law 204 = .ok (.invokevirtual 23, 3) := by decide +kernel
theorem d_L_law_207 : decode c_L_law 207 = .ok (.aload_n 2, 1) := by decide +kernel
theorem d_L_law_208 : decode c_L_law 208 = .ok (.aload_n 0, 1) := by decide +kernel
theorem d_L_law_209 : decode c_L_law 209 = .ok (.iload_n 3, 1) := by decide +kernel
theorem d_L_law_210 : decode c_L_law 210 = .ok (.iconst 1, 1) := by decide +kernel
theorem d_L_law_211 : decode c_L_law 211 = .ok (.iadd, 1) := by decide +kernel
theorem d_L_law_212 : decode c_L_law 212 = .ok (.iaload, 1) := by decide +kernel
theorem d_L_law_213 : decode c_L_law 213 = .ok (.invokevirtual 27, 3) := by decide +kernel
theorem d_L_law_216 : decode c_L_law 216 = .ok (.if_icmp .eq 414, 3) := by decide +kernel
theorem d_L_law_219 : decode c_L_law 219 = .ok (.iconst 0, 1) := by decide +kernel
theorem d_L_law_220 : decode c_L_law 220 = .ok (.ireturn, 1) := by decide +kernel
theorem d_L_law_221 : decode c_L_law 221 = .ok (.aload_n 1, 1) := by decide +kernel
theorem d_L_law_222 : decode c_L_law 222 = .ok (.aload_n 0, 1) := by decide +kernel
theorem d_L_law_223 : decode c_L_law 223 = .ok (.iload_n 3, 1) := by decide +kernel
theorem d_L_law_224 : decode c_L_law 224 = .ok (.iconst 1, 1) := by decide +kernel
theorem d_L_law_225 : decode c_L_law 225 = .ok (.iadd, 1) := by decide +kernel
theorem d_L_law_226 : decode c_L_law 226 = .ok (.iaload, 1) := by decide +kernel
theorem d_L_law_227 : decode c_L_law 227 = .ok (.aload_n 0, 1) := by decide +kernel
theorem d_L_law_228 : decode c_L_law 228 = .ok (.iload_n 3, 1) := by decide +kernel
theorem d_L_law_229 : decode c_L_law 229 = .ok (.iconst 2, 1) := by decide +kernel
theorem d_L_law_230 : decode c_L_law 230 = .ok (.iadd, 1) := by decide +kernel
theorem d_L_law_231 : decode c_L_law 231 = .ok (.iaload, 1) := by decide +kernel
theorem d_L_law_232 : decode c_L_law 232 = .ok (.aload_n 0, 1) := by decide +kernel
theorem d_L_law_233 : decode c_L_law 233 = .ok (.iload_n 3, 1) := by decide +kernel
theorem d_L_law_234 : decode c_L_law 234 = .ok (.iconst 3, 1) := by decide +kernel
theorem d_L_law_235 : decode c_L_law 235 = .ok (.iadd, 1) := by decide +kernel
theorem d_L_law_236 : decode c_L_law 236 = .ok (.iaload, 1) := by decide +kernel
theorem d_L_law_237 : decode c_L_law 237 = .ok (.invokevirtual 28, 3) := by decide +kernel
theorem d_L_law_240 : decode c_L_law 240 = .ok (.aload_n 2, 1) := by decide +kernel
theorem d_L_law_241 : decode c_L_law 241 = .ok (.aload_n 0, 1) := by decide +kernel
theorem d_L_law_242 : decode c_L_law 242 = .ok (.iload_n 3, 1) := by decide +kernel
theorem d_L_law_243 : decode c_L_law 243 = .ok (.iconst 1, 1) := by decide +kernel
theorem d_L_law_244 : decode c_L_law 244 = .ok (.iadd, 1) := by decide +kernel
theorem d_L_law_245 : decode c_L_law 245 = .ok (.iaload, 1) := by decide +kernel
theorem d_L_law_246 : decode c_L_law 246 = .ok (.aload_n 0, 1) := by decide +kernel
theorem d_L_law_247 : decode c_L_law 247 = .ok (.iload_n 3, 1) := by decide +kernel
theorem d_L_law_248 : decode c_L_law 248 = .ok (.iconst 2, 1) := by decide +kernel
theorem d_L_law_249 : decode c_L_law 249 = .ok (.iadd, 1) := by decide +kernel
theorem d_L_law_250 : decode c_L_law 250 = .ok (.iaload, 1) := by decide +kernel
theorem d_L_law_251 : decode c_L_law 251 = .ok (.aload_n 0, 1) := by decide +kernel
theorem d_L_law_252 : decode c_L_law 252 = .ok (.iload_n 3, 1) := by decide +kernel
theorem d_L_law_253 : decode c_L_law 253 = .ok (.iconst 3, 1) := by decide +kernel
theorem d_L_law_254 : decode c_L_law 254 = .ok (.iadd, 1) := by decide +kernel
theorem d_L_law_255 : decode c_L_law 255 = .ok (.iaload, 1) := by decide +kernel
theorem d_L_law_256 : decode c_L_law 256 = .ok (.invokevirtual 32, 3) := by decide +kernel
theorem d_L_law_259 : decode c_L_law 259 = .ok (.if_icmp .eq 371, 3) := by decide +kernel
theorem d_L_law_262 : decode c_L_law 262 = .ok (.iconst 0, 1) := by decide +kernel
theorem d_L_law_263 : decode c_L_law 263 = .ok (.ireturn, 1) := by decide +kernel
theorem d_L_law_264 : decode c_L_law 264 = .ok (.aload_n 1, 1) := by decide +kernel
theorem d_L_law_265 : decode c_L_law 265 = .ok (.aload_n 0, 1) := by decide +kernel
theorem d_L_law_266 : decode c_L_law 266 = .ok (.iload_n 3, 1) := by decide +kernel
theorem d_L_law_267 : decode c_L_law 267 = .ok (.iconst 1, 1) := by decide +kernel
theorem d_L_law_268 : decode c_L_law 268 = .ok (.iadd, 1) := by decide +kernel
theorem d_L_law_269 : decode c_L_law 269 = .ok (.iaload, 1) := by decide +kernel
theorem d_L_law_270 : decode c_L_law 270 = .ok (.invokevirtual 33, 3) := by decide +kernel
theorem d_L_law_273 : decode c_L_law 273 = .ok (.aload_n 2, 1) := by decide +kernel
theorem d_L_law_274 : decode c_L_law 274 = .ok (.aload_n 0, 1) := by decide +kernel
theorem d_L_law_275 : decode c_L_law 275 = .ok (.iload_n 3, 1) := by decide +kernel
theorem d_L_law_276 : decode c_L_law 276 = .ok (.iconst 1, 1) := by decide +kernel
theorem d_L_law_277 : decode c_L_law 277 = .ok (.iadd, 1) := by decide +kernel
theorem d_L_law_278 : decode c_L_law 278 = .ok (.iaload, 1) := by decide +kernel
theorem d_L_law_279 : decode c_L_law 279 = .ok (.invokevirtual 36, 3) := by decide +kernel
theorem d_L_law_282 : decode c_L_law 282 = .ok (.if_icmp .eq 348, 3) := by decide +kernel
theorem d_L_law_285 : decode c_L_law 285 = .ok (.iconst 0, 1) := by decide +kernel
theorem d_L_law_286 : decode c_L_law 286 = .ok (.ireturn, 1) := by decide +kernel
theorem d_L_law_287 : decode c_L_law 287 = .ok (.aload_n 1, 1) := by decide +kernel
theorem d_L_law_288 : decode c_L_law 288 = .ok (.aload_n 0, 1) := by decide +kernel
theorem d_L_law_289 : decode c_L_law 289 = .ok (.iload_n 3, 1) := by decide +kernel
theorem d_L_law_290 : decode c_L_law 290 = .ok (.iconst 1, 1) := by decide +kernel
theorem d_L_law_291 : decode c_L_law 291 = .ok (.iadd, 1) := by decide +kernel
theorem d_L_law_292 : decode c_L_law 292 = .ok (.iaload, 1) := by decide +kernel
theorem d_L_law_293 : decode c_L_law 293 = .ok (.aload_n 0, 1) := by decide +kernel
theorem d_L_law_294 : decode c_L_law 294 = .ok (.iload_n 3, 1) := by decide +kernel
theorem d_L_law_295 : decode c_L_law 295 = .ok (.iconst 2, 1) := by decide +kernel
theorem d_L_law_296 : decode c_L_law 296 = .ok (.iadd, 1) := by decide +kernel
theorem d_L_law_297 : decode c_L_law 297 = .ok (.iaload, 1) := by decide +kernel
theorem d_L_law_298 : decode c_L_law 298 = .ok (.aload_n 0, 1) := by decide +kernel
theorem d_L_law_299 : decode c_L_law 299 = .ok (.iload_n 3, 1) := by decide +kernel
theorem d_L_law_300 : decode c_L_law 300 = .ok (.iconst 3, 1) := by decide +kernel
theorem d_L_law_301 : decode c_L_law 301 = .ok (.iadd, 1) := by decide +kernel
theorem d_L_law_302 : decode c_L_law 302 = .ok (.iaload, 1) := by decide +kernel
theorem d_L_law_303 : decode c_L_law 303 = .ok (.invokevirtual 37, 3) := by decide +kernel
theorem d_L_law_306 : decode c_L_law 306 = .ok (.aload_n 2, 1) := by decide +kernel
theorem d_L_law_307 : decode c_L_law 307 = .ok (.aload_n 0, 1) := by decide +kernel
theorem d_L_law_308 : decode c_L_law 308 = .ok (.iload_n 3, 1) := by decide +kernel
theorem d_L_law_309 : decode c_L_law 309 = .ok (.iconst 1, 1) := by decide +kernel
theorem d_L_law_310 : decode c_L_law 310 = .ok (.iadd, 1) := by decide +kernel
theorem d_L_law_311 : decode c_L_law 311 = .ok (.iaload, 1) := by decide +kernel
theorem d_L_law_312 : decode c_L_law 312 = .ok (.aload_n 0, 1) := by decide +kernel
theorem d_L_law_313 : decode c_L_law 313 = .ok (.iload_n 3, 1) := by decide +kernel
theorem d_L_law_314 : decode c_L_law 314 = .ok (.iconst 2, 1) := by decide +kernel
theorem d_L_law_315 : decode c_L_law 315 = .ok (.iadd, 1) := by decide +kernel
theorem d_L_law_316 : decode c_L_law 316 = .ok (.iaload, 1) := by decide +kernel
theorem d_L_law_317 : decode c_L_law 317 = .ok (.aload_n 0, 1) := by decide +kernel
theorem d_L_law_318 : decode c_L_law 318 = .ok (.iload_n 3, 1) := by decide +kernel
theorem d_L_law_319 : decode c_L_law 319 = .ok (.iconst 3, 1) := by decide +kernel
theorem d_L_law_320 : decode c_L_law 320 = .ok (.iadd, 1) := by decide +kernel
theorem d_L_law_321 : decode c_L_law 321 = .ok (.iaload, 1) := by decide +kernel
theorem d_L_law_322 : decode c_L_law 322 = .ok (.invokevirtual 40, 3) := by decide +kernel
theorem d_L_law_325 : decode c_L_law 325 = .ok (.if_icmp .eq 305, 3) := by decide +kernel
theorem d_L_law_328 : decode c_L_law 328 = .ok (.iconst 0, 1) := by decide +kernel
theorem d_L_law_329 : decode c_L_law 329 = .ok (.ireturn, 1) := by decide +kernel
theorem d_L_law_330 : decode c_L_law 330 = .ok (.aload_n 1, 1) := by decide +kernel
theorem d_L_law_331 : decode c_L_law 331 = .ok (.aload_n 0, 1) := by decide +kernel
theorem d_L_law_332 : decode c_L_law 332 = .ok (.iload_n 3, 1) := by decide +kernel
theorem d_L_law_333 : decode c_L_law 333 = .ok (.iconst 1, 1) := by decide +kernel
theorem d_L_law_334 : decode c_L_law 334 = .ok (.iadd, 1) := by decide +kernel
theorem d_L_law_335 : decode c_L_law 335 = .ok (.iaload, 1) := by decide +kernel
theorem d_L_law_336 : decode c_L_law 336 = .ok (.aload_n 0, 1) := by decide +kernel
theorem d_L_law_337 : decode c_L_law 337 = .ok (.iload_n 3, 1) := by decide +kernel
theorem d_L_law_338 : decode c_L_law 338 = .ok (.iconst 2, 1) := by decide +kernel
theorem d_L_law_339 : decode c_L_law 339 = .ok (.iadd, 1) := by decide +kernel
theorem d_L_law_340 : decode c_L_law 340 = .ok (.iaload, 1) := by decide +kernel
theorem d_L_law_341 : decode c_L_law 341 = .ok (.ifCond .eq 7, 3) := by decide +kernel
theorem d_L_law_344 : decode c_L_law 344 = .ok (.iconst 1, 1) := by decide +kernel
theorem d_L_law_345 : decode c_L_law 345 = .ok (.goto 4, 3) := by decide +kernel
theorem d_L_law_348 : decode c_L_law 348 = .ok (.iconst 0, 1) := by decide +kernel
theorem d_L_law_349 : decode c_L_law 349 = .ok (.invokevirtual 41, 3) := by decide +kernel
theorem d_L_law_352 : decode c_L_law 352 = .ok (.aload_n 2, 1) := by decide +kernel
theorem d_L_law_353 : decode c_L_law 353 = .ok (.aload_n 0, 1) := by decide +kernel
theorem d_L_law_354 : decode c_L_law 354 = .ok (.iload_n 3, 1) := by decide +kernel
theorem d_L_law_355 : decode c_L_law 355 = .ok (.iconst 1, 1) := by decide +kernel
theorem d_L_law_356 : decode c_L_law 356 = .ok (.iadd, 1) := by decide +kernel
theorem d_L_law_357 : decode c_L_law 357 = .ok (.iaload, 1) := by decide +kernel
theorem d_L_law_358 : decode c_L_law 358 = .ok (.aload_n 0, 1) := by decide +kernel
theorem d_L_law_359 : decode c_L_law 359 = .ok (.iload_n 3, 1) := by decide +kernel
theorem d_L_law_360 : decode c_L_law 360 = .ok (.iconst 2, 1) := by decide +kernel
theorem d_L_law_361 : decode c_L_law 361 = .ok (.iadd, 1) := by decide +kernel
theorem d_L_law_362 : decode c_L_law 362 = .ok (.iaload, 1) := by decide +kernel
theorem d_L_law_363 : decode c_L_law 363 = .ok (.ifCond .eq 7, 3) := by decide +kernel
theorem d_L_law_366 : decode c_L_law 366 = .ok (.iconst 1, 1) := by decide +kernel
theorem d_L_law_367 : decode c_L_law 367 = .ok (.goto 4, 3) := by decide +kernel
theorem d_L_law_370 : decode c_L_law 370 = .ok (.iconst 0, 1) := by decide +kernel
theorem d_L_law_371 : decode c_L_law 371 = .ok (.invokevirtual 45, 3) := by decide +kernel
theorem d_L_law_374 : decode c_L_law 374 = .ok (.if_icmp .eq 256, 3) := by decide +kernel
theorem d_L_law_377 : decode c_L_law 377 = .ok (.iconst 0, 1) := by decide +kernel
theorem d_L_law_378 : decode c_L_law 378 = .ok (.ireturn, 1) := by decide +kernel
theorem d_L_law_379 : decode c_L_law 379 = .ok (.aload_n 1, 1) := by decide +kernel
theorem d_L_law_380 : decode c_L_law 380 = .ok (.aload_n 0, 1) := by decide +kernel
theorem d_L_law_381 : decode c_L_law 381 = .ok (.iload_n 3, 1) := by decide +kernel
theorem d_L_law_382 : decode c_L_law 382 = .ok (.iconst 1, 1) := by decide +kernel
theorem d_L_law_383 : decode c_L_law 383 = .ok (.iadd, 1) := by decide +kernel
theorem d_L_law_384 : decode c_L_law 384 = .ok (.iaload, 1) := by decide +kernel
theorem d_L_law_385 : decode c_L_law 385 = .ok (.aload_n 0, 1) := by decide +kernel
theorem d_L_law_386 : decode c_L_law 386 = .ok (.iload_n 3, 1) := by decide +kernel
theorem d_L_law_387 : decode c_L_law 387 = .ok (.iconst 2, 1) := by decide +kernel
theorem d_L_law_388 : decode c_L_law 388 = .ok (.iadd, 1) := by decide +kernel
theorem d_L_law_389 : decode c_L_law 389 = .ok (.iaload, 1) := by decide +kernel
theorem d_L_law_390 : decode c_L_law 390 = .ok (.invokevirtual 46, 3) := by decide +kernel
theorem d_L_law_393 : decode c_L_law 393 = .ok (.aload_n 2, 1) := by decide +kernel
theorem d_L_law_394 : decode c_L_law 394 = .ok (.aload_n 0, 1) := by decide +kernel
theorem d_L_law_395 : decode c_L_law 395 = .ok (.iload_n 3, 1) := by decide +kernel
theorem d_L_law_396 : decode c_L_law 396 = .ok (.iconst 1, 1) := by decide +kernel
theorem d_L_law_397 : decode c_L_law 397 = .ok (.iadd, 1) := by decide +kernel
theorem d_L_law_398 : decode c_L_law 398 = .ok (.iaload, 1) := by decide +kernel
theorem d_L_law_399 : decode c_L_law 399 = .ok (.aload_n 0, 1) := by decide +kernel
theorem d_L_law_400 : decode c_L_law 400 = .ok (.iload_n 3, 1) := by decide +kernel
theorem d_L_law_401 : decode c_L_law 401 = .ok (.iconst 2, 1) := by decide +kernel
theorem d_L_law_402 : decode c_L_law 402 = .ok (.iadd, 1) := by decide +kernel
theorem d_L_law_403 : decode c_L_law 403 = .ok (.iaload, 1) := by decide +kernel
theorem d_L_law_404 : decode c_L_law 404 = .ok (.invokevirtual 50, 3) := by decide +kernel
theorem d_L_law_407 : decode c_L_law 407 = .ok (.lcmp, 1) := by decide +kernel
theorem d_L_law_408 : decode c_L_law 408 = .ok (.ifCond .eq 222, 3) := by decide +kernel
theorem d_L_law_411 : decode c_L_law 411 = .ok (.iconst 0, 1) := by decide +kernel
theorem d_L_law_412 : decode c_L_law 412 = .ok (.ireturn, 1) := by decide +kernel
theorem d_L_law_413 : decode c_L_law 413 = .ok (.aload_n 1, 1) := by decide +kernel
theorem d_L_law_414 : decode c_L_law 414 = .ok (.invokevirtual 51, 3) := by decide +kernel
theorem d_L_law_417 : decode c_L_law 417 = .ok (.aload_n 2, 1) := by decide +kernel
theorem d_L_law_418 : decode c_L_law 418 = .ok (.invokevirtual 55, 3) := by decide +kernel
theorem d_L_law_421 : decode c_L_law 421 = .ok (.if_icmp .eq 209, 3) := by decide +kernel
theorem d_L_law_424 : decode c_L_law 424 = .ok (.iconst 0, 1) := by decide +kernel
theorem d_L_law_425 : decode c_L_law 425 = .ok (.ireturn, 1) := by decide +kernel
theorem d_L_law_426 : decode c_L_law 426 = .ok (.aload_n 1, 1) := by decide +kernel
theorem d_L_law_427 : decode c_L_law 427 = .ok (.aload_n 0, 1) := by decide +kernel
theorem d_L_law_428 : decode c_L_law 428 = .ok (.iload_n 3, 1) := by decide +kernel
theorem d_L_law_429 : decode c_L_law 429 = .ok (.iconst 1, 1) := by decide +kernel
theorem d_L_law_430 : decode c_L_law 430 = .ok (.iadd, 1) := by decide +kernel
theorem d_L_law_431 : decode c_L_law 431 = .ok (.iaload, 1) := by decide +kernel
theorem d_L_law_432 : decode c_L_law 432 = .ok (.invokevirtual 56, 3) := by decide +kernel
theorem d_L_law_435 : decode c_L_law 435 = .ok (.aload_n 2, 1) := by decide +kernel
theorem d_L_law_436 : decode c_L_law 436 = .ok (.aload_n 0, 1) := by decide +kernel
theorem d_L_law_437 : decode c_L_law 437 = .ok (.iload_n 3, 1) := by decide +kernel
theorem d_L_law_438 : decode c_L_law 438 = .ok (.iconst 1, 1) := by decide +kernel
theorem d_L_law_439 : decode c_L_law 439 = .ok (.iadd, 1) := by decide +kernel
theorem d_L_law_440 : decode c_L_law 440 = .ok (.iaload, 1) := by decide +kernel
theorem d_L_law_441 : decode c_L_law 441 = .ok (.invokevirtual 59, 3) := by decide +kernel
theorem d_L_law_444 : decode c_L_law 444 = .ok (.if_icmp .eq 186, 3) := by decide +kernel
theorem d_L_law_447 : decode c_L_law 447 = .ok (.iconst 0, 1) := by decide +kernel
theorem d_L_law_448 : decode c_L_law 448 = .ok (.ireturn, 1) := by decide +kernel
theorem d_L_law_449 : decode c_L_law 449 = .ok (.aload_n 1, 1) := by decide +kernel
theorem d_L_law_450 : decode c_L_law 450 = .ok (.aload_n 0, 1) := by decide +kernel
theorem d_L_law_451 : decode c_L_law 451 = .ok (.iload_n 3, 1) := by decide +kernel
theorem d_L_law_452 : decode c_L_law 452 = .ok (.iconst 1, 1) := by decide +kernel
theorem d_L_law_453 : decode c_L_law 453 = .ok (.iadd, 1) := by decide +kernel
theorem d_L_law_454 : decode c_L_law 454 = .ok (.iaload, 1) := by decide +kernel
theorem d_L_law_455 : decode c_L_law 455 = .ok (.invokevirtual 60, 3) := by decide +kernel
theorem d_L_law_458 : decode c_L_law 458 = .ok (.aload_n 2, 1) := by decide +kernel
theorem d_L_law_459 : decode c_L_law 459 = .ok (.aload_n 0, 1) := by decide +kernel
theorem d_L_law_460 : decode c_L_law 460 = .ok (.iload_n 3, 1) := by decide +kernel
theorem d_L_law_461 : decode c_L_law 461 = .ok (.iconst 1, 1) := by decide +kernel
theorem d_L_law_462 : decode c_L_law 462 = .ok (.iadd, 1) := by decide +kernel
theorem d_L_law_463 : decode c_L_law 463 = .ok (.iaload, 1) := by decide +kernel
theorem d_L_law_464 : decode c_L_law 464 = .ok (.invokevirtual 63, 3) := by decide +kernel
theorem d_L_law_467 : decode c_L_law 467 = .ok (.if_icmp .eq 163, 3) := by decide +kernel
theorem d_L_law_470 : decode c_L_law 470 = .ok (.iconst 0, 1) := by decide +kernel
theorem d_L_law_471 : decode c_L_law 471 = .ok (.ireturn, 1) := by decide +kernel
theorem d_L_law_472 : decode c_L_law 472 = .ok (.aload_n 1, 1) := by decide +kernel
theorem d_L_law_473 : decode c_L_law 473 = .ok (.aload_n 0, 1) := by decide +kernel
theorem d_L_law_474 : decode c_L_law 474 = .ok (.iload_n 3, 1) := by decide +kernel
theorem d_L_law_475 : decode c_L_law 475 = .ok (.iconst 1, 1) := by decide +kernel
theorem d_L_law_476 : decode c_L_law 476 = .ok (.iadd, 1) := by decide +kernel
theorem d_L_law_477 : decode c_L_law 477 = .ok (.iaload, 1) := by decide +kernel
theorem d_L_law_478 : decode c_L_law 478 = .ok (.aload_n 0, 1) := by decide +kernel
theorem d_L_law_479 : decode c_L_law 479 = .ok (.iload_n 3, 1) := by decide +kernel
theorem d_L_law_480 : decode c_L_law 480 = .ok (.iconst 2, 1) := by decide +kernel
theorem d_L_law_481 : decode c_L_law 481 = .ok (.iadd, 1) := by decide +kernel
theorem d_L_law_482 : decode c_L_law 482 = .ok (.iaload, 1) := by decide +kernel
theorem d_L_law_483 : decode c_L_law 483 = .ok (.aload_n 0, 1) := by decide +kernel
theorem d_L_law_484 : decode c_L_law 484 = .ok (.iload_n 3, 1) := by decide +kernel
theorem d_L_law_485 : decode c_L_law 485 = .ok (.iconst 3, 1) := by decide +kernel
theorem d_L_law_486 : decode c_L_law 486 = .ok (.iadd, 1) := by decide +kernel
theorem d_L_law_487 : decode c_L_law 487 = .ok (.iaload, 1) := by decide +kernel
theorem d_L_law_488 : decode c_L_law 488 = .ok (.invokevirtual 64, 3) := by decide +kernel
theorem d_L_law_491 : decode c_L_law 491 = .ok (.aload_n 2, 1) := by decide +kernel
theorem d_L_law_492 : decode c_L_law 492 = .ok (.aload_n 0, 1) := by decide +kernel
theorem d_L_law_493 : decode c_L_law 493 = .ok (.iload_n 3, 1) := by decide +kernel
theorem d_L_law_494 : decode c_L_law 494 = .ok (.iconst 1, 1) := by decide +kernel
theorem d_L_law_495 : decode c_L_law 495 = .ok (.iadd, 1) := by decide +kernel
theorem d_L_law_496 : decode c_L_law 496 = .ok (.iaload, 1) := by decide +kernel
theorem d_L_law_497 : decode c_L_law 497 = .ok (.aload_n 0, 1) := by decide +kernel
theorem d_L_law_498 : decode c_L_law 498 = .ok (.iload_n 3, 1) := by decide +kernel
theorem d_L_law_499 : decode c_L_law 499 = .ok (.iconst 2, 1) := by decide +kernel
theorem d_L_law_500 : decode c_L_law 500 = .ok (.iadd, 1) := by decide +kernel
theorem d_L_law_501 : decode c_L_law 501 = .ok (.iaload, 1) := by decide +kernel
theorem d_L_law_502 : decode c_L_law 502 = .ok (.aload_n 0, 1) := by decide +kernel
theorem d_L_law_503 : decode c_L_law 503 = .ok (.iload_n 3, 1) := by decide +kernel
theorem d_L_law_504 : decode c_L_law 504 = .ok (.iconst 3, 1) := by decide +kernel
theorem d_L_law_505 : decode c_L_law 505 = .ok (.iadd, 1) := by decide +kernel
theorem d_L_law_506 : decode c_L_law 506 = .ok (.iaload, 1) := by decide +kernel
theorem d_L_law_507 : decode c_L_law 507 = .ok (.invokevirtual 68, 3) := by decide +kernel
theorem d_L_law_510 : decode c_L_law 510 = .ok (.lcmp, 1) := by decide +kernel
theorem d_L_law_511 : decode c_L_law 511 = .ok (.ifCond .eq 119, 3) := by decide +kernel
theorem d_L_law_514 : decode c_L_law 514 = .ok (.iconst 0, 1) := by decide +kernel
theorem d_L_law_515 : decode c_L_law 515 = .ok (.ireturn, 1) := by decide +kernel
theorem d_L_law_516 : decode c_L_law 516 = .ok (.aload_n 1, 1) := by decide +kernel
theorem d_L_law_517 : decode c_L_law 517 = .ok (.aload_n 0, 1) := by decide +kernel
theorem d_L_law_518 : decode c_L_law 518 = .ok (.iload_n 3, 1) := by decide +kernel
theorem d_L_law_519 : decode c_L_law 519 = .ok (.iconst 1, 1) := by decide +kernel
theorem d_L_law_520 : decode c_L_law 520 = .ok (.iadd, 1) := by decide +kernel
theorem d_L_law_521 : decode c_L_law 521 = .ok (.iaload, 1) := by decide +kernel
theorem d_L_law_522 : decode c_L_law 522 = .ok (.aload_n 0, 1) := by decide +kernel
theorem d_L_law_523 : decode c_L_law 523 = .ok (.iload_n 3, 1) := by decide +kernel
theorem d_L_law_524 : decode c_L_law 524 = .ok (.iconst 2, 1) := by decide +kernel
theorem d_L_law_525 : decode c_L_law 525 = .ok (.iadd, 1) := by decide +kernel
theorem d_L_law_526 : decode c_L_law 526 = .ok (.iaload, 1) := by decide +kernel
theorem d_L_law_527 : decode c_L_law 527 = .ok (.invokevirtual 69, 3) := by decide +kernel
theorem d_L_law_530 : decode c_L_law 530 = .ok (.aload_n 2, 1) := by decide +kernel
theorem d_L_law_531 : decode c_L_law 531 = .ok (.aload_n 0, 1) := by decide +kernel
theorem d_L_law_532 : decode c_L_law 532 = .ok (.iload_n 3, 1) := by decide +kernel
theorem d_L_law_533 : decode c_L_law 533 = .ok (.iconst 1, 1) := by decide +kernel
theorem d_L_law_534 : decode c_L_law 534 = .ok (.iadd, 1) := by decide +kernel
theorem d_L_law_535 : decode c_L_law 535 = .ok (.iaload, 1) := by decide +kernel
theorem d_L_law_536 : decode c_L_law 536 = .ok (.aload_n 0, 1) := by decide +kernel
theorem d_L_law_537 : decode c_L_law 537 = .ok (.iload_n 3, 1) := by decide +kernel
theorem d_L_law_538 : decode c_L_law 538 = .ok (.iconst 2, 1) := by decide +kernel
theorem d_L_law_539 : decode c_L_law 539 = .ok (.iadd, 1) := by decide +kernel
theorem d_L_law_540 : decode c_L_law 540 = .ok (.iaload, 1) := by decide +kernel
theorem d_L_law_541 : decode c_L_law 541 = .ok (.invokevirtual 72, 3) := by decide +kernel
theorem d_L_law_544 : decode c_L_law 544 = .ok (.if_icmp .eq 86, 3) := by decide +kernel
theorem d_L_law_547 : decode c_L_law 547 = .ok (.iconst 0, 1) := by decide +kernel
theorem d_L_law_548 : decode c_L_law 548 = .ok (.ireturn, 1) := by decide +kernel
theorem d_L_law_549 : decode c_L_law 549 = .ok (.aload_n 1, 1) := by decide +kernel
theorem d_L_law_550 : decode c_L_law 550 = .ok (.aload_n 0, 1) := by decide +kernel
theorem d_L_law_551 : decode c_L_law 551 = .ok (.iload_n 3, 1) := by decide +kernel
theorem d_L_law_552 : decode c_L_law 552 = .ok (.iconst 1, 1) := by decide +kernel
theorem d_L_law_553 : decode c_L_law 553 = .ok (.iadd, 1) := by decide +kernel
theorem d_L_law_554 : decode c_L_law 554 = .ok (.iaload, 1) := by decide +kernel
theorem d_L_law_555 : decode c_L_law 555 = .ok (.invokevirtual 73, 3) := by decide +kernel
theorem d_L_law_558 : decode c_L_law 558 = .ok (.aload_n 2, 1) := by decide +kernel
theorem d_L_law_559 : decode c_L_law 559 = .ok (.aload_n 0, 1) := by decide +kernel
theorem d_L_law_560 : decode c_L_law 560 = .ok (.iload_n 3, 1) := by decide +kernel
theorem d_L_law_561 : decode c_L_law 561 = .ok (.iconst 1, 1) := by decide +kernel
theorem d_L_law_562 : decode c_L_law 562 = .ok (.iadd, 1) := by decide +kernel
theorem d_L_law_563 : decode c_L_law 563 = .ok (.iaload, 1) := by decide +kernel
theorem d_L_law_564 : decode c_L_law 564 = .ok (.invokevirtual 77, 3) := by decide +kernel
theorem d_L_law_567 : decode c_L_law 567 = .ok (.lcmp, 1) := by decide +kernel
theorem d_L_law_568 : decode c_L_law 568 = .ok (.ifCond .eq 62, 3) := by decide +kernel
theorem d_L_law_571 : decode c_L_law 571 = .ok (.iconst 0, 1) := by decide +kernel
theorem d_L_law_572 : decode c_L_law 572 = .ok (.ireturn, 1) := by decide +kernel
theorem d_L_law_573 : decode c_L_law 573 = .ok (.aload_n 1, 1) := by decide +kernel
theorem d_L_law_574 : decode c_L_law 574 = .ok (.aload_n 0, 1) := by decide +kernel
theorem d_L_law_575 : decode c_L_law 575 = .ok (.iload_n 3, 1) := by decide +kernel
theorem d_L_law_576 : decode c_L_law 576 = .ok (.iconst 1, 1) := by decide +kernel
theorem d_L_law_577 : decode c_L_law 577 = .ok (.iadd, 1) := by decide +kernel
theorem d_L_law_578 : decode c_L_law 578 = .ok (.iaload, 1) := by decide +kernel
theorem d_L_law_579 : decode c_L_law 579 = .ok (.aload_n 0, 1) := by decide +kernel
theorem d_L_law_580 : decode c_L_law 580 = .ok (.iload_n 3, 1) := by decide +kernel
theorem d_L_law_581 : decode c_L_law 581 = .ok (.iconst 2, 1) := by decide +kernel
theorem d_L_law_582 : decode c_L_law 582 = .ok (.iadd, 1) := by decide +kernel
theorem d_L_law_583 : decode c_L_law 583 = .ok (.iaload, 1) := by decide +kernel
theorem d_L_law_584 : decode c_L_law 584 = .ok (.invokevirtual 78, 3) := by decide +kernel
theorem d_L_law_587 : decode c_L_law 587 = .ok (.aload_n 2, 1) := by decide +kernel
theorem d_L_law_588 : decode c_L_law 588 = .ok (.aload_n 0, 1) := by decide +kernel
theorem d_L_law_589 : decode c_L_law 589 = .ok (.iload_n 3, 1) := by decide +kernel
theorem d_L_law_590 : decode c_L_law 590 = .ok (.iconst 1, 1) := by decide +kernel
theorem d_L_law_591 : decode c_L_law 591 = .ok (.iadd, 1) := by decide +kernel
theorem d_L_law_592 : decode c_L_law 592 = .ok (.iaload, 1) := by decide +kernel
theorem d_L_law_593 : decode c_L_law 593 = .ok (.aload_n 0, 1) := by decide +kernel
theorem d_L_law_594 : decode c_L_law 594 = .ok (.iload_n 3, 1) := by decide +kernel
theorem d_L_law_595 : decode c_L_law 595 = .ok (.iconst 2, 1) := by decide +kernel
theorem d_L_law_596 : decode c_L_law 596 = .ok (.iadd, 1) := by decide +kernel
theorem d_L_law_597 : decode c_L_law 597 = .ok (.iaload, 1) := by decide +kernel
theorem d_L_law_598 : decode c_L_law 598 = .ok (.invokevirtual 81, 3) := by decide +kernel
theorem d_L_law_601 : decode c_L_law 601 = .ok (.lcmp, 1) := by decide +kernel
theorem d_L_law_602 : decode c_L_law 602 = .ok (.ifCond .eq 28, 3) := by decide +kernel
theorem d_L_law_605 : decode c_L_law 605 = .ok (.iconst 0, 1) := by decide +kernel
theorem d_L_law_606 : decode c_L_law 606 = .ok (.ireturn, 1) := by decide +kernel
theorem d_L_law_607 : decode c_L_law 607 = .ok (.aload_n 1, 1) := by decide +kernel
theorem d_L_law_608 : decode c_L_law 608 = .ok (.aload_n 0, 1) := by decide +kernel
theorem d_L_law_609 : decode c_L_law 609 = .ok (.iload_n 3, 1) := by decide +kernel
theorem d_L_law_610 : decode c_L_law 610 = .ok (.iconst 1, 1) := by decide +kernel
theorem d_L_law_611 : decode c_L_law 611 = .ok (.iadd, 1) := by decide +kernel
theorem d_L_law_612 : decode c_L_law 612 = .ok (.iaload, 1) := by decide +kernel
theorem d_L_law_613 : decode c_L_law 613 = .ok (.invokevirtual 82, 3) := by decide +kernel
theorem d_L_law_616 : decode c_L_law 616 = .ok (.aload_n 2, 1) := by decide +kernel
theorem d_L_law_617 : decode c_L_law 617 = .ok (.aload_n 0, 1) := by decide +kernel
theorem d_L_law_618 : decode c_L_law 618 = .ok (.iload_n 3, 1) := by decide +kernel
theorem d_L_law_619 : decode c_L_law 619 = .ok (.iconst 1, 1) := by decide +kernel
theorem d_L_law_620 : decode c_L_law 620 = .ok (.iadd, 1) := by decide +kernel
theorem d_L_law_621 : decode c_L_law 621 = .ok (.iaload, 1) := by decide +kernel
theorem d_L_law_622 : decode c_L_law 622 = .ok (.invokevirtual 85, 3) := by decide +kernel
theorem d_L_law_625 : decode c_L_law 625 = .ok (.if_icmp .eq 5, 3) := by decide +kernel
theorem d_L_law_628 : decode c_L_law 628 = .ok (.iconst 0, 1) := by decide +kernel
theorem d_L_law_629 : decode c_L_law 629 = .ok (.ireturn, 1) := by decide +kernel
theorem d_L_law_630 : decode c_L_law 630 = .ok (.iinc 3 5, 3) := by decide +kernel
theorem d_L_law_633 : decode c_L_law 633 = .ok (.goto (-615), 3) := by decide +kernel
theorem d_L_law_636 : decode c_L_law 636 = .ok (.iconst 1, 1) := by decide +kernel
theorem d_L_law_637 : decode c_L_law 637 = .ok (.ireturn, 1) := by decide +kernel
theorem d_J7_fill_0 : decode c_J7_fill 0 = .ok (.iconst 0, 1) := by decide +kernel
theorem d_J7_fill_1 : decode c_J7_fill 1 = .ok (.istore_n 2, 1) := by decide +kernel
theorem d_J7_fill_2 : decode c_J7_fill 2 = .ok (.aload_n 0, 1) := by decide +kernel
theorem d_J7_fill_3 : decode c_J7_fill 3 = .ok (.arraylength, 1) := by decide +kernel
theorem d_J7_fill_4 : decode c_J7_fill 4 = .ok (.istore_n 3, 1) := by decide +kernel
theorem d_J7_fill_5 : decode c_J7_fill 5 = .ok (.iload_n 2, 1) := by decide +kernel
theorem d_J7_fill_6 : decode c_J7_fill 6 = .ok (.iload_n 3, 1) := by decide +kernel
theorem d_J7_fill_7 : decode c_J7_fill 7 = .ok (.if_icmp .ge 13, 3) := by decide +kernel
theorem d_J7_fill_10 : decode c_J7_fill 10 = .ok (.aload_n 0, 1) := by decide +kernel
theorem d_J7_fill_11 : decode c_J7_fill 11 = .ok (.iload_n 2, 1) := by decide +kernel
theorem d_J7_fill_12 : decode c_J7_fill 12 = .ok (.iload_n 1, 1) := by decide +kernel
theorem d_J7_fill_13 : decode c_J7_fill 13 = .ok (.iastore, 1) := by decide +kernel
theorem d_J7_fill_14 : decode c_J7_fill 14 = .ok (.iinc 2 1, 3) := by decide +kernel
theorem d_J7_fill_17 : decode c_J7_fill 17 = .ok (.goto (-12), 3) := by decide +kernel
theorem d_J7_fill_20 : decode c_J7_fill 20 = .ok (.return_, 1) := by decide +kernel
