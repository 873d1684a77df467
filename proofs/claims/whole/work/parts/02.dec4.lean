theorem d_X7_again_1 : decode c_X7_again 1 = .ok (.ifCond .lt 22, 3) := by decide +kernel
theorem d_X7_again_4 : decode c_X7_again 4 = .ok (.iload_n 1, 1) := by decide +kernel
theorem d_X7_again_5 : decode c_X7_again 5 = .ok (.aload_n 0, 1) := by decide +kernel
theorem d_X7_again_6 : decode c_X7_again 6 = .ok (.getfield 13, 3) := by decide +kernel
theorem d_X7_again_9 : decode c_X7_again 9 = .ok (.iconst 1, 1) := by decide +kernel
theorem d_X7_again_10 : decode c_X7_again 10 = .ok (.isub, 1) := by decide +kernel
theorem d_X7_again_11 : decode c_X7_again 11 = .ok (.if_icmp .ne 12, 3) := by decide +kernel
theorem d_X7_again_14 : decode c_X7_again 14 = .ok (.aload_n 0, 1) := by decide +kernel
theorem d_X7_again_15 : decode c_X7_again 15 = .ok (.getfield 54, 3) := by decide +kernel
theorem d_X7_again_18 : decode c_X7_again 18 = .ok (.iload_n 1, 1) := by decide +kernel
theorem d_X7_again_19 : decode c_X7_again 19 = .ok (.baload, 1) := by decide +kernel
theorem d_X7_again_20 : decode c_X7_again 20 = .ok (.ifCond .eq 5, 3) := by decide +kernel
theorem d_X7_again_23 : decode c_X7_again 23 = .ok (.iconst (-1), 1) := by decide +kernel
theorem d_X7_again_24 : decode c_X7_again 24 = .ok (.ireturn, 1) := by decide +kernel
theorem d_X7_again_25 : decode c_X7_again 25 = .ok (.aload_n 0, 1) := by decide +kernel
theorem d_X7_again_26 : decode c_X7_again 26 = .ok (.iload_n 1, 1) := by decide +kernel
theorem d_X7_again_27 : decode c_X7_again 27 = .ok (.invokevirtual 160, 3) := by decide +kernel
theorem d_X7_again_30 : decode c_X7_again 30 = .ok (.aload_n 0, 1) := by decide +kernel
theorem d_X7_again_31 : decode c_X7_again 31 = .ok (.iload_n 1, 1) := by decide +kernel
theorem d_X7_again_32 : decode c_X7_again 32 = .ok (.invokevirtual 157, 3) := by decide +kernel
theorem d_X7_again_35 : decode c_X7_again 35 = .ok (.aload_n 0, 1) := by decide +kernel
theorem d_X7_again_36 : decode c_X7_again 36 = .ok (.iload_n 1, 1) := by decide +kernel
theorem d_X7_again_37 : decode c_X7_again 37 = .ok (.invokevirtual 163, 3) := by decide +kernel
theorem d_X7_again_40 : decode c_X7_again 40 = .ok (.ireturn, 1) := by decide +kernel
theorem d_X7_slip_0 : decode c_X7_slip 0 = .ok (.iload_n 1, 1) := by decide +kernel
theorem d_X7_slip_1 : decode c_X7_slip 1 = .ok (.ifCond .lt 45, 3) := by decide +kernel
theorem d_X7_slip_4 : decode c_X7_slip 4 = .ok (.iload_n 1, 1) := by decide +kernel
theorem d_X7_slip_5 : decode c_X7_slip 5 = .ok (.aload_n 0, 1) := by decide +kernel
theorem d_X7_slip_6 : decode c_X7_slip 6 = .ok (.getfield 13, 3) := by decide +kernel
theorem d_X7_slip_9 : decode c_X7_slip 9 = .ok (.if_icmp .ge 37, 3) := by decide +kernel
theorem d_X7_slip_12 : decode c_X7_slip 12 = .ok (.aload_n 0, 1) := by decide +kernel
theorem d_X7_slip_13 : decode c_X7_slip 13 = .ok (.iload_n 2, 1) := by decide +kernel
theorem d_X7_slip_14 : decode c_X7_slip 14 = .ok (.iconst 0, 1) := by decide +kernel
theorem d_X7_slip_15 : decode c_X7_slip 15 = .ok (.iconst 5, 1) := by decide +kernel
theorem d_X7_slip_16 : decode c_X7_slip 16 = .ok (.invokevirtual 76, 3) := by decide +kernel
theorem d_X7_slip_19 : decode c_X7_slip 19 = .ok (.ifCond .ne 27, 3) := by decide +kernel
theorem d_X7_slip_22 : decode c_X7_slip 22 = .ok (.aload_n 0, 1) := by decide +kernel
theorem d_X7_slip_23 : decode c_X7_slip 23 = .ok (.iload_n 3, 1) := by decide +kernel
theorem d_X7_slip_24 : decode c_X7_slip 24 = .ok (.iconst 0, 1) := by decide +kernel
theorem d_X7_slip_25 : decode c_X7_slip 25 = .ok (.iconst 2, 1) := by decide +kernel
theorem d_X7_slip_26 : decode c_X7_slip 26 = .ok (.invokevirtual 76, 3) := by decide +kernel
theorem d_X7_slip_29 : decode c_X7_slip 29 = .ok (.ifCond .ne 17, 3) := by decide +kernel
theorem d_X7_slip_32 : decode c_X7_slip 32 = .ok (.aload_n 0, 1) := by decide +kernel
theorem d_X7_slip_33 : decode c_X7_slip 33 = .ok (.getfield 57, 3) := by decide +kernel
theorem d_X7_slip_36 : decode c_X7_slip 36 = .ok (.iload_n 1, 1) := by decide +kernel
theorem d_X7_slip_37 : decode c_X7_slip 37 = .ok (.bipush 6, 2) := by decide +kernel
theorem d_X7_slip_39 : decode c_X7_slip 39 = .ok (.imul, 1) := by decide +kernel
theorem d_X7_slip_40 : decode c_X7_slip 40 = .ok (.iload_n 2, 1) := by decide +kernel
theorem d_X7_slip_41 : decode c_X7_slip 41 = .ok (.iadd, 1) := by decide +kernel
theorem d_X7_slip_42 : decode c_X7_slip 42 = .ok (.baload, 1) := by decide +kernel
theorem d_X7_slip_43 : decode c_X7_slip 43 = .ok (.ifCond .ne 7, 3) := by decide +kernel
theorem d_X7_slip_46 : decode c_X7_slip 46 = .ok (.ldc2_w 147, 3) := by decide +kernel
theorem d_X7_slip_49 : decode c_X7_slip 49 = .ok (.lreturn, 1) := by decide +kernel
theorem d_X7_slip_50 : decode c_X7_slip 50 = .ok (.aload_n 0, 1) := by decide +kernel
theorem d_X7_slip_51 : decode c_X7_slip 51 = .ok (.getfield 63, 3) := by decide +kernel
theorem d_X7_slip_54 : decode c_X7_slip 54 = .ok (.iload_n 1, 1) := by decide +kernel
theorem d_X7_slip_55 : decode c_X7_slip 55 = .ok (.bipush 6, 2) := by decide +kernel
theorem d_X7_slip_57 : decode c_X7_slip 57 = .ok (.imul, 1) := by decide +kernel
theorem d_X7_slip_58 : decode c_X7_slip 58 = .ok (.iload_n 2, 1) := by decide +kernel
theorem d_X7_slip_59 : decode c_X7_slip 59 = .ok (.iadd, 1) := by decide +kernel
theorem d_X7_slip_60 : decode c_X7_slip 60 = .ok (.iconst 3, 1) := by decide +kernel
theorem d_X7_slip_61 : decode c_X7_slip 61 = .ok (.imul, 1) := by decide +kernel
theorem d_X7_slip_62 : decode c_X7_slip 62 = .ok (.iload_n 3, 1) := by decide +kernel
theorem d_X7_slip_63 : decode c_X7_slip 63 = .ok (.iadd, 1) := by decide +kernel
theorem d_X7_slip_64 : decode c_X7_slip 64 = .ok (.laload, 1) := by decide +kernel
theorem d_X7_slip_65 : decode c_X7_slip 65 = .ok (.lreturn, 1) := by decide +kernel
theorem d_X7_held_0 : decode c_X7_held 0 = .ok (.iload_n 1, 1) := by decide +kernel
theorem d_X7_held_1 : decode c_X7_held 1 = .ok (.ifCond .lt 21, 3) := by decide +kernel
theorem d_X7_held_4 : decode c_X7_held 4 = .ok (.iload_n 1, 1) := by decide +kernel
theorem d_X7_held_5 : decode c_X7_held 5 = .ok (.aload_n 0, 1) := by decide +kernel
theorem d_X7_held_6 : decode c_X7_held 6 = .ok (.getfield 13, 3) := by decide +kernel
theorem d_X7_held_9 : decode c_X7_held 9 = .ok (.if_icmp .ge 13, 3) := by decide +kernel
theorem d_X7_held_12 : decode c_X7_held 12 = .ok (.aload_n 0, 1) := by decide +kernel
theorem d_X7_held_13 : decode c_X7_held 13 = .ok (.iload_n 2, 1) := by decide +kernel
theorem d_X7_held_14 : decode c_X7_held 14 = .ok (.iconst 0, 1) := by decide +kernel
theorem d_X7_held_15 : decode c_X7_held 15 = .ok (.iconst 5, 1) := by decide +kernel
theorem d_X7_held_16 : decode c_X7_held 16 = .ok (.invokevirtual 76, 3) := by decide +kernel
theorem d_X7_held_19 : decode c_X7_held 19 = .ok (.ifCond .eq 7, 3) := by decide +kernel
theorem d_X7_held_22 : decode c_X7_held 22 = .ok (.iconst (-1), 1) := by decide +kernel
theorem d_X7_held_23 : decode c_X7_held 23 = .ok (.goto 14, 3) := by decide +kernel
theorem d_X7_held_26 : decode c_X7_held 26 = .ok (.aload_n 0, 1) := by decide +kernel
theorem d_X7_held_27 : decode c_X7_held 27 = .ok (.getfield 60, 3) := by decide +kernel
theorem d_X7_held_30 : decode c_X7_held 30 = .ok (.iload_n 1, 1) := by decide +kernel
theorem d_X7_held_31 : decode c_X7_held 31 = .ok (.bipush 6, 2) := by decide +kernel
theorem d_X7_held_33 : decode c_X7_held 33 = .ok (.imul, 1) := by decide +kernel
theorem d_X7_held_34 : decode c_X7_held 34 = .ok (.iload_n 2, 1) := by decide +kernel
theorem d_X7_held_35 : decode c_X7_held 35 = .ok (.iadd, 1) := by decide +kernel
theorem d_X7_held_36 : decode c_X7_held 36 = .ok (.iaload, 1) := by decide +kernel
theorem d_X7_held_37 : decode c_X7_held 37 = .ok (.ireturn, 1) := by decide +kernel
theorem d_X7_account_0 : decode c_X7_account 0 = .ok (.aload_n 0, 1) := by decide +kernel
theorem d_X7_account_1 : decode c_X7_account 1 = .ok (.iload_n 1, 1) := by decide +kernel
theorem d_X7_account_2 : decode c_X7_account 2 = .ok (.iconst 0, 1) := by decide +kernel
theorem d_X7_account_3 : decode c_X7_account 3 = .ok (.iconst 2, 1) := by decide +kernel
theorem d_X7_account_4 : decode c_X7_account 4 = .ok (.invokevirtual 76, 3) := by decide +kernel
theorem d_X7_account_7 : decode c_X7_account 7 = .ok (.ifCond .eq 7, 3) := by decide +kernel
theorem d_X7_account_10 : decode c_X7_account 10 = .ok (.ldc2_w 147, 3) := by decide +kernel
theorem d_X7_account_13 : decode c_X7_account 13 = .ok (.lreturn, 1) := by decide +kernel
theorem d_X7_account_14 : decode c_X7_account 14 = .ok (.lconst 0, 1) := by decide +kernel
theorem d_X7_account_15 : decode c_X7_account 15 = .ok (.lstore_n 2, 1) := by decide +kernel
theorem d_X7_account_16 : decode c_X7_account 16 = .ok (.iconst 0, 1) := by decide +kernel
theorem d_X7_account_17 : decode c_X7_account 17 = .ok (.istore 4, 2) := by decide +kernel
theorem d_X7_account_19 : decode c_X7_account 19 = .ok (.iload 4, 2) := by decide +kernel
theorem d_X7_account_21 : decode c_X7_account 21 = .ok (.aload_n 0, 1) := by decide +kernel
theorem d_X7_account_22 : decode c_X7_account 22 = .ok (.getfield 13, 3) := by decide +kernel
theorem d_X7_account_25 : decode c_X7_account 25 = .ok (.if_icmp .ge 71, 3) := by decide +kernel
theorem d_X7_account_28 : decode c_X7_account 28 = .ok (.iconst 0, 1) := by decide +kernel
theorem d_X7_account_29 : decode c_X7_account 29 = .ok (.istore 5, 2) := by decide +kernel
theorem d_X7_account_31 : decode c_X7_account 31 = .ok (.iload 5, 2) := by decide +kernel
theorem d_X7_account_33 : decode c_X7_account 33 = .ok (.bipush 6, 2) := by decide +kernel
theorem d_X7_account_35 : decode c_X7_account 35 = .ok (.if_icmp .ge 55, 3) := by decide +kernel
theorem d_X7_account_38 : decode c_X7_account 38 = .ok (.aload_n 0, 1) := by decide +kernel
theorem d_X7_account_39 : decode c_X7_account 39 = .ok (.getfield 54, 3) := by decide +kernel
theorem d_X7_account_42 : decode c_X7_account 42 = .ok (.iload 4, 2) := by decide +kernel
theorem d_X7_account_44 : decode c_X7_account 44 = .ok (.baload, 1) := by decide +kernel
theorem d_X7_account_45 : decode c_X7_account 45 = .ok (.ifCond .ne 45, 3) := by decide +kernel
theorem d_X7_account_48 : decode c_X7_account 48 = .ok (.aload_n 0, 1) := by decide +kernel
theorem d_X7_account_49 : decode c_X7_account 49 = .ok (.getfield 57, 3) := by decide +kernel
theorem d_X7_account_52 : decode c_X7_account 52 = .ok (.iload 4, 2) := by decide +kernel
theorem d_X7_account_54 : decode c_X7_account 54 = .ok (.bipush 6, 2) := by decide +kernel
theorem d_X7_account_56 : decode c_X7_account 56 = .ok (.imul, 1) := by decide +kernel
theorem d_X7_account_57 : decode c_X7_account 57 = .ok (.iload 5, 2) := by decide +kernel
theorem d_X7_account_59 : decode c_X7_account 59 = .ok (.iadd, 1) := by decide +kernel
theorem d_X7_account_60 : decode c_X7_account 60 = .ok (.baload, 1) := by decide +kernel
theorem d_X7_account_61 : decode c_X7_account 61 = .ok (.ifCond .eq 23, 3) := by decide +kernel
theorem d_X7_account_64 : decode c_X7_account 64 = .ok (.lload_n 2, 1) := by decide +kernel
theorem d_X7_account_65 : decode c_X7_account 65 = .ok (.aload_n 0, 1) := by decide +kernel
theorem d_X7_account_66 : decode c_X7_account 66 = .ok (.getfield 63, 3) := by decide +kernel
theorem d_X7_account_69 : decode c_X7_account 69 = .ok (.iload 4, 2) := by decide +kernel
theorem d_X7_account_71 : decode c_X7_account 71 = .ok (.bipush 6, 2) := by decide +kernel
theorem d_X7_account_73 : decode c_X7_account 73 = .ok (.imul, 1) := by decide +kernel
theorem d_X7_account_74 : decode c_X7_account 74 = .ok (.iload 5, 2) := by decide +kernel
theorem d_X7_account_76 : decode c_X7_account 76 = .ok (.iadd, 1) := by decide +kernel
theorem d_X7_account_77 : decode c_X7_account 77 = .ok (.iconst 3, 1) := by decide +kernel
theorem d_X7_account_78 : decode c_X7_account 78 = .ok (.imul, 1) := by decide +kernel
theorem d_X7_account_79 : decode c_X7_account 79 = .ok (.iload_n 1, 1) := by decide +kernel
theorem d_X7_account_80 : decode c_X7_account 80 = .ok (.iadd, 1) := by decide +kernel
theorem d_X7_account_81 : decode c_X7_account 81 = .ok (.laload, 1) := by decide +kernel
theorem d_X7_account_82 : decode c_X7_account 82 = .ok (.ladd, 1) := by decide +kernel
theorem d_X7_account_83 : decode c_X7_account 83 = .ok (.lstore_n 2, 1) := by decide +kernel
theorem d_X7_account_84 : decode c_X7_account 84 = .ok (.iinc 5 1, 3) := by decide +kernel
theorem d_X7_account_87 : decode c_X7_account 87 = .ok (.goto (-56), 3) := by decide +kernel
theorem d_X7_account_90 : decode c_X7_account 90 = .ok (.iinc 4 1, 3) := by decide +kernel
theorem d_X7_account_93 : decode c_X7_account 93 = .ok (.goto (-74), 3) := by decide +kernel
theorem d_X7_account_96 : decode c_X7_account 96 = .ok (.iload_n 1, 1) := by decide +kernel
theorem d_X7_account_97 : decode c_X7_account 97 = .ok (.ifCond .ne 7, 3) := by decide +kernel
theorem d_X7_account_100 : decode c_X7_account 100 = .ok (.lload_n 2, 1) := by decide +kernel
theorem d_X7_account_101 : decode c_X7_account 101 = .ok (.goto 5, 3) := by decide +kernel
theorem d_X7_account_104 : decode c_X7_account 104 = .ok (.lload_n 2, 1) := by decide +kernel
theorem d_X7_account_105 : decode c_X7_account 105 = .ok (.lneg, 1) := by decide +kernel
theorem d_X7_account_106 : decode c_X7_account 106 = .ok (.lreturn, 1) := by decide +kernel
theorem d_X7_paid_0 : decode c_X7_paid 0 = .ok (.aload_n 0, 1) := by decide +kernel
theorem d_X7_paid_1 : decode c_X7_paid 1 = .ok (.iload_n 1, 1) := by decide +kernel
theorem d_X7_paid_2 : decode c_X7_paid 2 = .ok (.iconst 0, 1) := by decide +kernel
theorem d_X7_paid_3 : decode c_X7_paid 3 = .ok (.iconst 5, 1) := by decide +kernel
theorem d_X7_paid_4 : decode c_X7_paid 4 = .ok (.invokevirtual 76, 3) := by decide +kernel
theorem d_X7_paid_7 : decode c_X7_paid 7 = .ok (.ifCond .ne 13, 3) := by decide +kernel
theorem d_X7_paid_10 : decode c_X7_paid 10 = .ok (.aload_n 0, 1) := by decide +kernel
theorem d_X7_paid_11 : decode c_X7_paid 11 = .ok (.iload_n 2, 1) := by decide +kernel
theorem d_X7_paid_12 : decode c_X7_paid 12 = .ok (.iconst 0, 1) := by decide +kernel
theorem d_X7_paid_13 : decode c_X7_paid 13 = .ok (.iconst 1, 1) := by decide +kernel
theorem d_X7_paid_14 : decode c_X7_paid 14 = .ok (.invokevirtual 76, 3) := by decide +kernel
theorem d_X7_paid_17 : decode c_X7_paid 17 = .ok (.ifCond .eq 9, 3) := by decide +kernel
theorem d_X7_paid_20 : decode c_X7_paid 20 = .ok (.ldc2_w 147, 3) := by decide +kernel
theorem d_X7_paid_23 : decode c_X7_paid 23 = .ok (.goto 13, 3) := by decide +kernel
theorem d_X7_paid_26 : decode c_X7_paid 26 = .ok (.aload_n 0, 1) := by decide +kernel
theorem d_X7_paid_27 : decode c_X7_paid 27 = .ok (.getfield 67, 3) := by decide +kernel
theorem d_X7_paid_30 : decode c_X7_paid 30 = .ok (.iload_n 1, 1) := by decide +kernel
theorem d_X7_paid_31 : decode c_X7_paid 31 = .ok (.iconst 2, 1) := by decide +kernel
theorem d_X7_paid_32 : decode c_X7_paid 32 = .ok (.imul, 1) := by decide +kernel
theorem d_X7_paid_33 : decode c_X7_paid 33 = .ok (.iload_n 2, 1) := by decide +kernel
theorem d_X7_paid_34 : decode c_X7_paid 34 = .ok (.iadd, 1) := by decide +kernel
theorem d_X7_paid_35 : decode c_X7_paid 35 = .ok (.laload, 1) := by decide +kernel
theorem d_X7_paid_36 : decode c_X7_paid 36 = .ok (.lreturn, 1) := by decide +kernel
theorem d_X7_count_0 : decode c_X7_count 0 = .ok (.iconst 0, 1) := by decide +kernel
theorem d_X7_count_1 : decode c_X7_count 1 = .ok (.istore_n 2, 1) := by decide +kernel
theorem d_X7_count_2 : decode c_X7_count 2 = .ok (.iconst 0, 1) := by decide +kernel
theorem d_X7_count_3 : decode c_X7_count 3 = .ok (.istore_n 3, 1) := by decide +kernel
theorem d_X7_count_4 : decode c_X7_count 4 = .ok (.iconst 0, 1) := by decide +kernel
theorem d_X7_count_5 : decode c_X7_count 5 = .ok (.istore 4, 2) := by decide +kernel
theorem d_X7_count_7 : decode c_X7_count 7 = .ok (.iconst 0, 1) := by decide +kernel
theorem d_X7_count_8 : decode c_X7_count 8 = .ok (.istore 5, 2) := by decide +kernel
theorem d_X7_count_10 : decode c_X7_count 10 = .ok (.iconst 0, 1) := by decide +kernel
theorem d_X7_count_11 : decode c_X7_count 11 = .ok (.istore 6, 2) := by decide +kernel
theorem d_X7_count_13 : decode c_X7_count 13 = .ok (.iload 6, 2) := by decide +kernel
theorem d_X7_count_15 : decode c_X7_count 15 = .ok (.aload_n 0, 1) := by decide +kernel
theorem d_X7_count_16 : decode c_X7_count 16 = .ok (.getfield 13, 3) := by decide +kernel
theorem d_X7_count_19 : decode c_X7_count 19 = .ok (.if_icmp .ge 34, 3) := by decide +kernel
theorem d_X7_count_22 : decode c_X7_count 22 = .ok (.aload_n 0, 1) := by decide +kernel
theorem d_X7_count_23 : decode c_X7_count 23 = .ok (.getfield 54, 3) := by decide +kernel
theorem d_X7_count_26 : decode c_X7_count 26 = .ok (.iload 6, 2) := by decide +kernel
theorem d_X7_count_28 : decode c_X7_count 28 = .ok (.baload, 1) := by decide +kernel
theorem d_X7_count_29 : decode c_X7_count 29 = .ok (.ifCond .eq 9, 3) := by decide +kernel
theorem d_X7_count_32 : decode c_X7_count 32 = .ok (.iinc 2 1, 3) := by decide +kernel
theorem d_X7_count_35 : decode c_X7_count 35 = .ok (.goto 12, 3) := by decide +kernel
theorem d_X7_count_38 : decode c_X7_count 38 = .ok (.iload_n 3, 1) := by decide +kernel
theorem d_X7_count_39 : decode c_X7_count 39 = .ok (.aload_n 0, 1) := by decide +kernel
theorem d_X7_count_40 : decode c_X7_count 40 = .ok (.iload 6, 2) := by decide +kernel
theorem d_X7_count_42 : decode c_X7_count 42 = .ok (.invokevirtual 163, 3) := by decide +kernel
theorem d_X7_count_45 : decode c_X7_count 45 = .ok (.iadd, 1) := by decide +kernel
theorem d_X7_count_46 : decode c_X7_count 46 = .ok (.istore_n 3, 1) := by decide +kernel
theorem d_X7_count_47 : decode c_X7_count 47 = .ok (.iinc 6 1, 3) := by decide +kernel
theorem d_X7_count_50 : decode c_X7_count 50 = .ok (.goto (-37), 3) := by decide +kernel
theorem d_X7_count_53 : decode c_X7_count 53 = .ok (.iconst 0, 1) := by decide +kernel
theorem d_X7_count_54 : decode c_X7_count 54 = .ok (.istore 6, 2) := by decide +kernel
theorem d_X7_count_56 : decode c_X7_count 56 = .ok (.iload 6, 2) := by decide +kernel
theorem d_X7_count_58 : decode c_X7_count 58 = .ok (.bipush 6, 2) := by decide +kernel
theorem d_X7_count_60 : decode c_X7_count 60 = .ok (.if_icmp .ge 22, 3) := by decide +kernel
theorem d_X7_count_63 : decode c_X7_count 63 = .ok (.aload_n 0, 1) := by decide +kernel
theorem d_X7_count_64 : decode c_X7_count 64 = .ok (.getfield 50, 3) := by decide +kernel
theorem d_X7_count_67 : decode c_X7_count 67 = .ok (.iload 6, 2) := by decide +kernel
theorem d_X7_count_69 : decode c_X7_count 69 = .ok (.baload, 1) := by decide +kernel
theorem d_X7_count_70 : decode c_X7_count 70 = .ok (.ifCond .eq 6, 3) := by decide +kernel
theorem d_X7_count_73 : decode c_X7_count 73 = .ok (.iinc 4 1, 3) := by decide +kernel
theorem d_X7_count_76 : decode c_X7_count 76 = .ok (.iinc 6 1, 3) := by decide +kernel
theorem d_X7_count_79 : decode c_X7_count 79 = .ok (.goto (-23), 3) := by decide +kernel
theorem d_X7_count_82 : decode c_X7_count 82 = .ok (.iconst 0, 1) := by decide +kernel
theorem d_X7_count_83 : decode c_X7_count 83 = .ok (.istore 6, 2) := by decide +kernel
theorem d_X7_count_85 : decode c_X7_count 85 = .ok (.iload 6, 2) := by decide +kernel
theorem d_X7_count_87 : decode c_X7_count 87 = .ok (.bipush 8, 2) := by decide +kernel
theorem d_X7_count_89 : decode c_X7_count 89 = .ok (.if_icmp .ge 28, 3) := by decide +kernel
theorem d_X7_count_92 : decode c_X7_count 92 = .ok (.aload_n 0, 1) := by decide +kernel
theorem d_X7_count_93 : decode c_X7_count 93 = .ok (.getfield 35, 3) := by decide +kernel
theorem d_X7_count_96 : decode c_X7_count 96 = .ok (.iload 6, 2) := by decide +kernel
theorem d_X7_count_98 : decode c_X7_count 98 = .ok (.iaload, 1) := by decide +kernel
theorem d_X7_count_99 : decode c_X7_count 99 = .ok (.ifCond .lt 12, 3) := by decide +kernel
theorem d_X7_count_102 : decode c_X7_count 102 = .ok (.iload 5, 2) := by decide +kernel
theorem d_X7_count_104 : decode c_X7_count 104 = .ok (.iconst 1, 1) := by decide +kernel
theorem d_X7_count_105 : decode c_X7_count 105 = .ok (.iload 6, 2) := by decide +kernel
theorem d_X7_count_107 : decode c_X7_count 107 = .ok (.ishl, 1) := by decide +kernel
theorem d_X7_count_108 : decode c_X7_count 108 = .ok (.ior, 1) := by decide +kernel
theorem d_X7_count_109 : decode c_X7_count 109 = .ok (.istore 5, 2) := by decide +kernel
theorem d_X7_count_111 : decode c_X7_count 111 = .ok (.iinc 6 1, 3) := by decide +kernel
theorem d_X7_count_114 : decode c_X7_count 114 = .ok (.goto (-29), 3) := by decide +kernel
theorem d_X7_count_117 : decode c_X7_count 117 = .ok (.iload_n 1, 1) := by decide +kernel
theorem d_X7_count_118 : decode c_X7_count 118 = .ok (.ifCond .ne 10, 3) := by decide +kernel
theorem d_X7_count_121 : decode c_X7_count 121 = .ok (.aload_n 0, 1) := by decide +kernel
theorem d_X7_count_122 : decode c_X7_count 122 = .ok (.getfield 7, 3) := by decide +kernel
theorem d_X7_count_125 : decode c_X7_count 125 = .ok (.goto 77, 3) := by decide +kernel
theorem d_X7_count_128 : decode c_X7_count 128 = .ok (.iload_n 1, 1) := by decide +kernel
theorem d_X7_count_129 : decode c_X7_count 129 = .ok (.iconst 1, 1) := by decide +kernel
theorem d_X7_count_130 : decode c_X7_count 130 = .ok (.if_icmp .ne 10, 3) := by decide +kernel
theorem d_X7_count_133 : decode c_X7_count 133 = .ok (.aload_n 0, 1) := by decide +kernel
theorem d_X7_count_134 : decode c_X7_count 134 = .ok (.getfield 13, 3) := by decide +kernel
theorem d_X7_count_137 : decode c_X7_count 137 = .ok (.goto 65, 3) := by decide +kernel
theorem d_X7_count_140 : decode c_X7_count 140 = .ok (.iload_n 1, 1) := by decide +kernel
theorem d_X7_count_141 : decode c_X7_count 141 = .ok (.iconst 2, 1) := by decide +kernel
theorem d_X7_count_142 : decode c_X7_count 142 = .ok (.if_icmp .ne 7, 3) := by decide +kernel
theorem d_X7_count_145 : decode c_X7_count 145 = .ok (.iload_n 2, 1) := by decide +kernel
theorem d_X7_count_146 : decode c_X7_count 146 = .ok (.goto 56, 3) := by decide +kernel
theorem d_X7_count_149 : decode c_X7_count 149 = .ok (.iload_n 1, 1) := by decide +kernel
theorem d_X7_count_150 : decode c_X7_count 150 = .ok (.iconst 3, 1) := by decide +kernel
theorem d_X7_count_151 : decode c_X7_count 151 = .ok (.if_icmp .ne 7, 3) := by decide +kernel
theorem d_X7_count_154 : decode c_X7_count 154 = .ok (.iload_n 3, 1) := by decide +kernel
theorem d_X7_count_155 : decode c_X7_count 155 = .ok (.goto 47, 3) := by decide +kernel
theorem d_X7_count_158 : decode c_X7_count 158 = .ok (.iload_n 1, 1) := by decide +kernel
theorem d_X7_count_159 : decode c_X7_count 159 = .ok (.iconst 4, 1) := by decide +kernel
theorem d_X7_count_160 : decode c_X7_count 160 = .ok (.if_icmp .ne 8, 3) := by decide +kernel
theorem d_X7_count_163 : decode c_X7_count 163 = .ok (.iload 4, 2) := by decide +kernel
theorem d_X7_count_165 : decode c_X7_count 165 = .ok (.goto 37, 3) := by decide +kernel
theorem d_X7_count_168 : decode c_X7_count 168 = .ok (.iload_n 1, 1) := by decide +kernel
theorem d_X7_count_169 : decode c_X7_count 169 = .ok (.iconst 5, 1) := by decide +kernel
theorem d_X7_count_170 : decode c_X7_count 170 = .ok (.if_icmp .eq 9, 3) := by decide +kernel
theorem d_X7_count_173 : decode c_X7_count 173 = .ok (.iload_n 1, 1) := by decide +kernel
theorem d_X7_count_174 : decode c_X7_count 174 = .ok (.bipush 6, 2) := by decide +kernel
theorem d_X7_count_176 : decode c_X7_count 176 = .ok (.if_icmp .ne 14, 3) := by decide +kernel
theorem d_X7_count_179 : decode c_X7_count 179 = .ok (.aload_n 0, 1) := by decide +kernel
theorem d_X7_count_180 : decode c_X7_count 180 = .ok (.getfield 38, 3) := by decide +kernel
theorem d_X7_count_183 : decode c_X7_count 183 = .ok (.iload_n 1, 1) := by decide +kernel
theorem d_X7_count_184 : decode c_X7_count 184 = .ok (.iconst 5, 1) := by decide +kernel
theorem d_X7_count_185 : decode c_X7_count 185 = .ok (.isub, 1) := by decide +kernel
theorem d_X7_count_186 : decode c_X7_count 186 = .ok (.iaload, 1) := by decide +kernel
theorem d_X7_count_187 : decode c_X7_count 187 = .ok (.goto 15, 3) := by decide +kernel
theorem d_X7_count_190 : decode c_X7_count 190 = .ok (.iload_n 1, 1) := by decide +kernel
theorem d_X7_count_191 : decode c_X7_count 191 = .ok (.bipush 7, 2) := by decide +kernel
theorem d_X7_count_193 : decode c_X7_count 193 = .ok (.if_icmp .ne 8, 3) := by decide +kernel
theorem d_X7_count_196 : decode c_X7_count 196 = .ok (.iload 5, 2) := by decide +kernel
theorem d_X7_count_198 : decode c_X7_count 198 = .ok (.goto 4, 3) := by decide +kernel
theorem d_X7_count_201 : decode c_X7_count 201 = .ok (.iconst (-1), 1) := by decide +kernel
theorem d_X7_count_202 : decode c_X7_count 202 = .ok (.ireturn, 1) := by decide +kernel
theorem d_X0_init_0 : decode c_X0_init 0 = .ok (.aload_n 0, 1) := by decide +kernel
theorem d_X0_init_1 : decode c_X0_init 1 = .ok (.invokespecial 3, 3) := by decide +kernel
theorem d_X0_init_4 : decode c_X0_init 4 = .ok (.aload_n 0, 1) := by decide +kernel
theorem d_X0_init_5 : decode c_X0_init 5 = .ok (.bipush 70, 2) := by decide +kernel
theorem d_X0_init_7 : decode c_X0_init 7 = .ok (.newarray .int, 2) := by decide +kernel
theorem d_X0_init_9 : decode c_X0_init 9 = .ok (.putfield 9, 3) := by decide +kernel
theorem d_X0_init_12 : decode c_X0_init 12 = .ok (.aload_n 0, 1) := by decide +kernel
theorem d_X0_init_13 : decode c_X0_init 13 = .ok (.bipush 70, 2) := by decide +kernel
theorem d_X0_init_15 : decode c_X0_init 15 = .ok (.newarray .int, 2) := by decide +kernel
theorem d_X0_init_17 : decode c_X0_init 17 = .ok (.putfield 15, 3) := by decide +kernel
theorem d_X0_init_20 : decode c_X0_init 20 = .ok (.aload_n 0, 1) := by decide +kernel
theorem d_X0_init_21 : decode c_X0_init 21 = .ok (.bipush 70, 2) := by decide +kernel
theorem d_X0_init_23 : decode c_X0_init 23 = .ok (.newarray .int, 2) := by decide +kernel
theorem d_X0_init_25 : decode c_X0_init 25 = .ok (.putfield 18, 3) := by decide +kernel
theorem d_X0_init_28 : decode c_X0_init 28 = .ok (.aload_n 0, 1) := by decide +kernel
theorem d_X0_init_29 : decode c_X0_init 29 = .ok (.bipush 70, 2) := by decide +kernel
theorem d_X0_init_31 : decode c_X0_init 31 = .ok (.newarray .int, 2) := by decide +kernel
theorem d_X0_init_33 : decode c_X0_init 33 = .ok (.putfield 21, 3) := by decide +kernel
theorem d_X0_init_36 : decode c_X0_init 36 = .ok (.aload_n 0, 1) := by decide +kernel
theorem d_X0_init_37 : decode c_X0_init 37 = .ok (.bipush 70, 2) := by decide +kernel
theorem d_X0_init_39 : decode c_X0_init 39 = .ok (.newarray .int, 2) := by decide +kernel
theorem d_X0_init_41 : decode c_X0_init 41 = .ok (.putfield 24, 3) := by decide +kernel
theorem d_X0_init_44 : decode c_X0_init 44 = .ok (.aload_n 0, 1) := by decide +kernel
theorem d_X0_init_45 : decode c_X0_init 45 = .ok (.bipush 70, 2) := by decide +kernel
theorem d_X0_init_47 : decode c_X0_init 47 = .ok (.newarray .int, 2) := by decide +kernel
theorem d_X0_init_49 : decode c_X0_init 49 = .ok (.putfield 27, 3) := by decide +kernel
theorem d_X0_init_52 : decode c_X0_init 52 = .ok (.aload_n 0, 1) := by decide +kernel
theorem d_X0_init_53 : decode c_X0_init 53 = .ok (.bipush 70, 2) := by decide +kernel
theorem d_X0_init_55 : decode c_X0_init 55 = .ok (.newarray .int, 2) := by decide +kernel
theorem d_X0_init_57 : decode c_X0_init 57 = .ok (.putfield 30, 3) := by decide +kernel
theorem d_X0_init_60 : decode c_X0_init 60 = .ok (.return_, 1) := by decide +kernel
theorem d_X0_has_0 : decode c_X0_has 0 = .ok (.iload_n 1, 1) := by decide +kernel
theorem d_X0_has_1 : decode c_X0_has 1 = .ok (.aload_n 0, 1) := by decide +kernel
theorem d_X0_has_2 : decode c_X0_has 2 = .ok (.getfield 33, 3) := by decide +kernel
theorem d_X0_has_5 : decode c_X0_has 5 = .ok (.invokestatic 37, 3) := by decide +kernel
theorem d_X0_has_8 : decode c_X0_has 8 = .ok (.ireturn, 1) := by decide +kernel
theorem d_X0_make_0 : decode c_X0_make 0 = .ok (.iload_n 1, 1) := by decide +kernel
theorem d_X0_make_1 : decode c_X0_make 1 = .ok (.bipush 20, 2) := by decide +kernel
theorem d_X0_make_3 : decode c_X0_make 3 = .ok (.invokestatic 37, 3) := by decide +kernel
theorem d_X0_make_6 : decode c_X0_make 6 = .ok (.ifCond .eq 15, 3) := by decide +kernel
theorem d_X0_make_9 : decode c_X0_make 9 = .ok (.aload_n 0, 1) := by decide +kernel
theorem d_X0_make_10 : decode c_X0_make 10 = .ok (.iload_n 1, 1) := by decide +kernel
theorem d_X0_make_11 : decode c_X0_make 11 = .ok (.iload_n 2, 1) := by decide +kernel
theorem d_X0_make_12 : decode c_X0_make 12 = .ok (.iload_n 3, 1) := by decide +kernel
theorem d_X0_make_13 : decode c_X0_make 13 = .ok (.iload 4, 2) := by decide +kernel
theorem d_X0_make_15 : decode c_X0_make 15 = .ok (.invokevirtual 41, 3) := by decide +kernel
theorem d_X0_make_18 : decode c_X0_make 18 = .ok (.ifCond .ne 5, 3) := by decide +kernel
theorem d_X0_make_21 : decode c_X0_make 21 = .ok (.iconst (-1), 1) := by decide +kernel
theorem d_X0_make_22 : decode c_X0_make 22 = .ok (.ireturn, 1) := by decide +kernel
theorem d_X0_make_23 : decode c_X0_make 23 = .ok (.iload_n 1, 1) := by decide +kernel
theorem d_X0_make_24 : decode c_X0_make 24 = .ok (.iconst 1, 1) := by decide +kernel
theorem d_X0_make_25 : decode c_X0_make 25 = .ok (.invokestatic 45, 3) := by decide +kernel
theorem d_X0_make_28 : decode c_X0_make 28 = .ok (.ifCond .eq 7, 3) := by decide +kernel
theorem d_X0_make_31 : decode c_X0_make 31 = .ok (.iload_n 2, 1) := by decide +kernel
theorem d_X0_make_32 : decode c_X0_make 32 = .ok (.goto 4, 3) := by decide +kernel
theorem d_X0_make_35 : decode c_X0_make 35 = .ok (.iconst (-1), 1) := by decide +kernel
theorem d_X0_make_36 : decode c_X0_make 36 = .ok (.istore 5, 2) := by decide +kernel
theorem d_X0_make_38 : decode c_X0_make 38 = .ok (.iload_n 1, 1) := by decide +kernel
theorem d_X0_make_39 : decode c_X0_make 39 = .ok (.iconst 2, 1) := by decide +kernel
theorem d_X0_make_40 : decode c_X0_make 40 = .ok (.invokestatic 45, 3) := by decide +kernel
theorem d_X0_make_43 : decode c_X0_make 43 = .ok (.ifCond .eq 7, 3) := by decide +kernel
theorem d_X0_make_46 : decode c_X0_make 46 = .ok (.iload_n 3, 1) := by decide +kernel
theorem d_X0_make_47 : decode c_X0_make 47 = .ok (.goto 4, 3) := by decide +kernel
theorem d_X0_make_50 : decode c_X0_make 50 = .ok (.iconst (-1), 1) := by decide +kernel
theorem d_X0_make_51 : decode c_X0_make 51 = .ok (.istore 6, 2) := by decide +kernel
theorem d_X0_make_53 : decode c_X0_make 53 = .ok (.iload_n 1, 1) := by decide +kernel
theorem d_X0_make_54 : decode c_X0_make 54 = .ok (.iconst 4, 1) := by decide +kernel
theorem d_X0_make_55 : decode c_X0_make 55 = .ok (.invokestatic 45, 3) := by decide +kernel
theorem d_X0_make_58 : decode c_X0_make 58 = .ok (.ifCond .eq 8, 3) := by decide +kernel
theorem d_X0_make_61 : decode c_X0_make 61 = .ok (.iload 4, 2) := by decide +kernel
theorem d_X0_make_63 : decode c_X0_make 63 = .ok (.goto 4, 3) := by decide +kernel
theorem d_X0_make_66 : decode c_X0_make 66 = .ok (.iconst (-1), 1) := by decide +kernel
theorem d_X0_make_67 : decode c_X0_make 67 = .ok (.istore 7, 2) := by decide +kernel
theorem d_X0_make_69 : decode c_X0_make 69 = .ok (.iconst 1, 1) := by decide +kernel
theorem d_X0_make_70 : decode c_X0_make 70 = .ok (.aload_n 0, 1) := by decide +kernel
theorem d_X0_make_71 : decode c_X0_make 71 = .ok (.iload 5, 2) := by decide +kernel
theorem d_X0_make_73 : decode c_X0_make 73 = .ok (.invokevirtual 48, 3) := by decide +kernel
theorem d_X0_make_76 : decode c_X0_make 76 = .ok (.aload_n 0, 1) := by decide +kernel
theorem d_X0_make_77 : decode c_X0_make 77 = .ok (.iload 6, 2) := by decide +kernel
theorem d_X0_make_79 : decode c_X0_make 79 = .ok (.invokevirtual 48, 3) := by decide +kernel
theorem d_X0_make_82 : decode c_X0_make 82 = .ok (.aload_n 0, 1) := by decide +kernel
theorem d_X0_make_83 : decode c_X0_make 83 = .ok (.iload 7, 2) := by decide +kernel
theorem d_X0_make_85 : decode c_X0_make 85 = .ok (.invokevirtual 48, 3) := by decide +kernel
theorem d_X0_make_88 : decode c_X0_make 88 = .ok (.invokestatic 52, 3) := by decide +kernel
theorem d_X0_make_91 : decode c_X0_make 91 = .ok (.invokestatic 52, 3) := by decide +kernel
theorem d_X0_make_94 : decode c_X0_make 94 = .ok (.iadd, 1) := by decide +kernel
theorem d_X0_make_95 : decode c_X0_make 95 = .ok (.istore 8, 2) := by decide +kernel
theorem d_X0_make_97 : decode c_X0_make 97 = .ok (.iload 8, 2) := by decide +kernel
theorem d_X0_make_99 : decode c_X0_make 99 = .ok (.bipush 10, 2) := by decide +kernel
theorem d_X0_make_101 : decode c_X0_make 101 = .ok (.if_icmp .le 5, 3) := by decide +kernel
theorem d_X0_make_104 : decode c_X0_make 104 = .ok (.iconst (-1), 1) := by decide +kernel
theorem d_X0_make_105 : decode c_X0_make 105 = .ok (.ireturn, 1) := by decide +kernel
theorem d_X0_make_106 : decode c_X0_make 106 = .ok (.aload_n 0, 1) := by decide +kernel
theorem d_X0_make_107 : decode c_X0_make 107 = .ok (.getfield 33, 3) := by decide +kernel
theorem d_X0_make_110 : decode c_X0_make 110 = .ok (.bipush 70, 2) := by decide +kernel
theorem d_X0_make_112 : decode c_X0_make 112 = .ok (.if_icmp .ne 6, 3) := by decide +kernel
theorem d_X0_make_115 : decode c_X0_make 115 = .ok (.bipush (-2), 2) := by decide +kernel
theorem d_X0_make_117 : decode c_X0_make 117 = .ok (.ireturn, 1) := by decide +kernel
theorem d_X0_make_118 : decode c_X0_make 118 = .ok (.aload_n 0, 1) := by decide +kernel
theorem d_X0_make_119 : decode c_X0_make 119 = .ok (.getfield 33, 3) := by decide +kernel
theorem d_X0_make_122 : decode c_X0_make 122 = .ok (.istore 9, 2) := by decide +kernel
theorem d_X0_make_124 : decode c_X0_make 124 = .ok (.aload_n 0, 1) := by decide +kernel
theorem d_X0_make_125 : decode c_X0_make 125 = .ok (.getfield 9, 3) := by decide +kernel
theorem d_X0_make_128 : decode c_X0_make 128 = .ok (.iload 9, 2) := by decide +kernel
theorem d_X0_make_130 : decode c_X0_make 130 = .ok (.iload_n 1, 1) := by decide +kernel
theorem d_X0_make_131 : decode c_X0_make 131 = .ok (.iastore, 1) := by decide +kernel
theorem d_X0_make_132 : decode c_X0_make 132 = .ok (.aload_n 0, 1) := by decide +kernel
theorem d_X0_make_133 : decode c_X0_make 133 = .ok (.getfield 15, 3) := by decide +kernel
theorem d_X0_make_136 : decode c_X0_make 136 = .ok (.iload 9, 2) := by decide +kernel
theorem d_X0_make_138 : decode c_X0_make 138 = .ok (.iload_n 2, 1) := by decide +kernel
theorem d_X0_make_139 : decode c_X0_make 139 = .ok (.iastore, 1) := by decide +kernel
theorem d_X0_make_140 : decode c_X0_make 140 = .ok (.aload_n 0, 1) := by decide +kernel
theorem d_X0_make_141 : decode c_X0_make 141 = .ok (.getfield 18, 3) := by decide +kernel
theorem d_X0_make_144 : decode c_X0_make 144 = .ok (.iload 9, 2) := by decide +kernel
theorem d_X0_make_146 : decode c_X0_make 146 = .ok (.iload_n 3, 1) := by decide +kernel
theorem d_X0_make_147 : decode c_X0_make 147 = .ok (.iastore, 1) := by decide +kernel
theorem d_X0_make_148 : decode c_X0_make 148 = .ok (.aload_n 0, 1) := by decide +kernel
theorem d_X0_make_149 : decode c_X0_make 149 = .ok (.getfield 21, 3) := by decide +kernel
theorem d_X0_make_152 : decode c_X0_make 152 = .ok (.iload 9, 2) := by decide +kernel
theorem d_X0_make_154 : decode c_X0_make 154 = .ok (.iload 4, 2) := by decide +kernel
theorem d_X0_make_156 : decode c_X0_make 156 = .ok (.iastore, 1) := by decide +kernel
theorem d_X0_make_157 : decode c_X0_make 157 = .ok (.aload_n 0, 1) := by decide +kernel
theorem d_X0_make_158 : decode c_X0_make 158 = .ok (.getfield 24, 3) := by decide +kernel
theorem d_X0_make_161 : decode c_X0_make 161 = .ok (.iload 9, 2) := by decide +kernel
theorem d_X0_make_163 : decode c_X0_make 163 = .ok (.iload 8, 2) := by decide +kernel
theorem d_X0_make_165 : decode c_X0_make 165 = .ok (.iastore, 1) := by decide +kernel
theorem d_X0_make_166 : decode c_X0_make 166 = .ok (.iload_n 1, 1) := by decide +kernel
theorem d_X0_make_167 : decode c_X0_make 167 = .ok (.iconst 2, 1) := by decide +kernel
theorem d_X0_make_168 : decode c_X0_make 168 = .ok (.if_icmp .ne 9, 3) := by decide +kernel
theorem d_X0_make_171 : decode c_X0_make 171 = .ok (.iload_n 2, 1) := by decide +kernel
theorem d_X0_make_172 : decode c_X0_make 172 = .ok (.iconst 1, 1) := by decide +kernel
theorem d_X0_make_173 : decode c_X0_make 173 = .ok (.iadd, 1) := by decide +kernel
theorem d_X0_make_174 : decode c_X0_make 174 = .ok (.goto 4, 3) := by decide +kernel
theorem d_X0_make_177 : decode c_X0_make 177 = .ok (.iconst 0, 1) := by decide +kernel
theorem d_X0_make_178 : decode c_X0_make 178 = .ok (.istore 10, 2) := by decide +kernel
theorem d_X0_make_180 : decode c_X0_make 180 = .ok (.aload_n 0, 1) := by decide +kernel
theorem d_X0_make_181 : decode c_X0_make 181 = .ok (.getfield 27, 3) := by decide +kernel
theorem d_X0_make_184 : decode c_X0_make 184 = .ok (.iload 9, 2) := by decide +kernel
theorem d_X0_make_186 : decode c_X0_make 186 = .ok (.iload 10, 2) := by decide +kernel
theorem d_X0_make_188 : decode c_X0_make 188 = .ok (.aload_n 0, 1) := by decide +kernel
theorem d_X0_make_189 : decode c_X0_make 189 = .ok (.iload 5, 2) := by decide +kernel
theorem d_X0_make_191 : decode c_X0_make 191 = .ok (.invokevirtual 58, 3) := by decide +kernel
theorem d_X0_make_194 : decode c_X0_make 194 = .ok (.invokestatic 52, 3) := by decide +kernel
theorem d_X0_make_197 : decode c_X0_make 197 = .ok (.aload_n 0, 1) := by decide +kernel
theorem d_X0_make_198 : decode c_X0_make 198 = .ok (.iload 6, 2) := by decide +kernel
theorem d_X0_make_200 : decode c_X0_make 200 = .ok (.invokevirtual 58, 3) := by decide +kernel
theorem d_X0_make_203 : decode c_X0_make 203 = .ok (.aload_n 0, 1) := by decide +kernel
theorem d_X0_make_204 : decode c_X0_make 204 = .ok (.iload 7, 2) := by decide +kernel
theorem d_X0_make_206 : decode c_X0_make 206 = .ok (.invokevirtual 58, 3) := by decide +kernel
theorem d_X0_make_209 : decode c_X0_make 209 = .ok (.invokestatic 52, 3) := by decide +kernel
theorem d_X0_make_212 : decode c_X0_make 212 = .ok (.invokestatic 52, 3) := by decide +kernel
theorem d_X0_make_215 : decode c_X0_make 215 = .ok (.iastore, 1) := by decide +kernel
theorem d_X0_make_216 : decode c_X0_make 216 = .ok (.aload_n 0, 1) := by decide +kernel
theorem d_X0_make_217 : decode c_X0_make 217 = .ok (.iload 9, 2) := by decide +kernel
theorem d_X0_make_219 : decode c_X0_make 219 = .ok (.invokevirtual 61, 3) := by decide +kernel
theorem d_X0_make_222 : decode c_X0_make 222 = .ok (.aload_n 0, 1) := by decide +kernel
theorem d_X0_make_223 : decode c_X0_make 223 = .ok (.dup, 1) := by decide +kernel
theorem d_X0_make_224 : decode c_X0_make 224 = .ok (.getfield 33, 3) := by decide +kernel
theorem d_X0_make_227 : decode c_X0_make 227 = .ok (.iconst 1, 1) := by decide +kernel
theorem d_X0_make_228 : decode c_X0_make 228 = .ok (.iadd, 1) := by decide +kernel
theorem d_X0_make_229 : decode c_X0_make 229 = .ok (.putfield 33, 3) := by decide +kernel
theorem d_X0_make_232 : decode c_X0_make 232 = .ok (.iload 9, 2) := by decide +kernel
theorem d_X0_make_234 : decode c_X0_make 234 = .ok (.ireturn, 1) := by decide +kernel
theorem d_X0_takesNode_0 : decode c_X0_takesNode 0 = .ok (.getstatic 65, 3) := by decide +kernel
theorem d_X0_takesNode_3 : decode c_X0_takesNode 3 = .ok (.iload_n 0, 1) := by decide +kernel
theorem d_X0_takesNode_4 : decode c_X0_takesNode 4 = .ok (.iaload, 1) := by decide +kernel
theorem d_X0_takesNode_5 : decode c_X0_takesNode 5 = .ok (.iload_n 1, 1) := by decide +kernel
theorem d_X0_takesNode_6 : decode c_X0_takesNode 6 = .ok (.iand, 1) := by decide +kernel
theorem d_X0_takesNode_7 : decode c_X0_takesNode 7 = .ok (.ifCond .eq 7, 3) := by decide +kernel
theorem d_X0_takesNode_10 : decode c_X0_takesNode 10 = .ok (.iconst 1, 1) := by decide +kernel
theorem d_X0_takesNode_11 : decode c_X0_takesNode 11 = .ok (.goto 4, 3) := by decide +kernel
theorem d_X0_takesNode_14 : decode c_X0_takesNode 14 = .ok (.iconst 0, 1) := by decide +kernel
theorem d_X0_takesNode_15 : decode c_X0_takesNode 15 = .ok (.ireturn, 1) := by decide +kernel
theorem d_X0_operandsFit_0 : decode c_X0_operandsFit 0 = .ok (.aload_n 0, 1) := by decide +kernel
theorem d_X0_operandsFit_1 : decode c_X0_operandsFit 1 = .ok (.iload_n 1, 1) := by decide +kernel
theorem d_X0_operandsFit_2 : decode c_X0_operandsFit 2 = .ok (.iload_n 2, 1) := by decide +kernel
theorem d_X0_operandsFit_3 : decode c_X0_operandsFit 3 = .ok (.invokevirtual 68, 3) := by decide +kernel
theorem d_X0_operandsFit_6 : decode c_X0_operandsFit 6 = .ok (.ifCond .eq 40, 3) := by decide +kernel
theorem d_X0_operandsFit_9 : decode c_X0_operandsFit 9 = .ok (.iload_n 1, 1) := by decide +kernel
theorem d_X0_operandsFit_10 : decode c_X0_operandsFit 10 = .ok (.iconst 2, 1) := by decide +kernel
theorem d_X0_operandsFit_11 : decode c_X0_operandsFit 11 = .ok (.invokestatic 45, 3) := by decide +kernel
theorem d_X0_operandsFit_14 : decode c_X0_operandsFit 14 = .ok (.ifCond .eq 11, 3) := by decide +kernel
theorem d_X0_operandsFit_17 : decode c_X0_operandsFit 17 = .ok (.aload_n 0, 1) := by decide +kernel
theorem d_X0_operandsFit_18 : decode c_X0_operandsFit 18 = .ok (.iload_n 3, 1) := by decide +kernel
theorem d_X0_operandsFit_19 : decode c_X0_operandsFit 19 = .ok (.invokevirtual 71, 3) := by decide +kernel
theorem d_X0_operandsFit_22 : decode c_X0_operandsFit 22 = .ok (.ifCond .eq 24, 3) := by decide +kernel
theorem d_X0_operandsFit_25 : decode c_X0_operandsFit 25 = .ok (.iload_n 1, 1) := by decide +kernel
theorem d_X0_operandsFit_26 : decode c_X0_operandsFit 26 = .ok (.iconst 4, 1) := by decide +kernel
theorem d_X0_operandsFit_27 : decode c_X0_operandsFit 27 = .ok (.invokestatic 45, 3) := by decide +kernel
theorem d_X0_operandsFit_30 : decode c_X0_operandsFit 30 = .ok (.ifCond .eq 12, 3) := by decide +kernel
theorem d_X0_operandsFit_33 : decode c_X0_operandsFit 33 = .ok (.aload_n 0, 1) := by decide +kernel
theorem d_X0_operandsFit_34 : decode c_X0_operandsFit 34 = .ok (.iload 4, 2) := by decide +kernel
theorem d_X0_operandsFit_36 : decode c_X0_operandsFit 36 = .ok (.invokevirtual 71, 3) := by decide +kernel
theorem d_X0_operandsFit_39 : decode c_X0_operandsFit 39 = .ok (.ifCond .eq 7, 3) := by decide +kernel
theorem d_X0_operandsFit_42 : decode c_X0_operandsFit 42 = .ok (.iconst 1, 1) := by decide +kernel
theorem d_X0_operandsFit_43 : decode c_X0_operandsFit 43 = .ok (.goto 4, 3) := by decide +kernel
theorem d_X0_operandsFit_46 : decode c_X0_operandsFit 46 = .ok (.iconst 0, 1) := by decide +kernel
theorem d_X0_operandsFit_47 : decode c_X0_operandsFit 47 = .ok (.ireturn, 1) := by decide +kernel
theorem d_X0_firstFits_0 : decode c_X0_firstFits 0 = .ok (.iload_n 1, 1) := by decide +kernel
theorem d_X0_firstFits_1 : decode c_X0_firstFits 1 = .ok (.tableswitch 144 0 19 #[95, 99, 106, 113, 144, 144, 144, 144, 144, 144, 144, 144, 144, 144, 144, 144, 97, 125, 144, 119], 95) := by decide +kernel
theorem d_X0_firstFits_96 : decode c_X0_firstFits 96 = .ok (.iconst 1, 1) := by decide +kernel
theorem d_X0_firstFits_97 : decode c_X0_firstFits 97 = .ok (.ireturn, 1) := by decide +kernel
theorem d_X0_firstFits_98 : decode c_X0_firstFits 98 = .ok (.iconst 1, 1) := by decide +kernel
theorem d_X0_firstFits_99 : decode c_X0_firstFits 99 = .ok (.ireturn, 1) := by decide +kernel
theorem d_X0_firstFits_100 : decode c_X0_firstFits 100 = .ok (.iload_n 2, 1) := by decide +kernel
theorem d_X0_firstFits_101 : decode c_X0_firstFits 101 = .ok (.bipush 8, 2) := by decide +kernel
theorem d_X0_firstFits_103 : decode c_X0_firstFits 103 = .ok (.invokestatic 37, 3) := by decide +kernel
theorem d_X0_firstFits_106 : decode c_X0_firstFits 106 = .ok (.ireturn, 1) := by decide +kernel
theorem d_X0_firstFits_107 : decode c_X0_firstFits 107 = .ok (.iload_n 2, 1) := by decide +kernel
theorem d_X0_firstFits_108 : decode c_X0_firstFits 108 = .ok (.bipush 8, 2) := by decide +kernel
theorem d_X0_firstFits_110 : decode c_X0_firstFits 110 = .ok (.invokestatic 37, 3) := by decide +kernel
theorem d_X0_firstFits_113 : decode c_X0_firstFits 113 = .ok (.ireturn, 1) := by decide +kernel
theorem d_X0_firstFits_114 : decode c_X0_firstFits 114 = .ok (.iload_n 2, 1) := by decide +kernel
theorem d_X0_firstFits_115 : decode c_X0_firstFits 115 = .ok (.iconst 2, 1) := by decide +kernel
theorem d_X0_firstFits_116 : decode c_X0_firstFits 116 = .ok (.invokestatic 37, 3) := by decide +kernel
theorem d_X0_firstFits_119 : decode c_X0_firstFits 119 = .ok (.ireturn, 1) := by decide +kernel
theorem d_X0_firstFits_120 : decode c_X0_firstFits 120 = .ok (.iload_n 2, 1) := by decide +kernel
theorem d_X0_firstFits_121 : decode c_X0_firstFits 121 = .ok (.iconst 2, 1) := by decide +kernel
theorem d_X0_firstFits_122 : decode c_X0_firstFits 122 = .ok (.invokestatic 37, 3) := by decide +kernel
theorem d_X0_firstFits_125 : decode c_X0_firstFits 125 = .ok (.ireturn, 1) := by decide +kernel
theorem d_X0_firstFits_126 : decode c_X0_firstFits 126 = .ok (.iload_n 2, 1) := by decide +kernel
theorem d_X0_firstFits_127 : decode c_X0_firstFits 127 = .ok (.iconst (-1), 1) := by decide +kernel
theorem d_X0_firstFits_128 : decode c_X0_firstFits 128 = .ok (.if_icmp .eq 11, 3) := by decide +kernel
theorem d_X0_firstFits_131 : decode c_X0_firstFits 131 = .ok (.aload_n 0, 1) := by decide +kernel
theorem d_X0_firstFits_132 : decode c_X0_firstFits 132 = .ok (.iload_n 2, 1) := by decide +kernel
theorem d_X0_firstFits_133 : decode c_X0_firstFits 133 = .ok (.invokevirtual 71, 3) := by decide +kernel
theorem d_X0_firstFits_136 : decode c_X0_firstFits 136 = .ok (.ifCond .eq 7, 3) := by decide +kernel
theorem d_X0_firstFits_139 : decode c_X0_firstFits 139 = .ok (.iconst 1, 1) := by decide +kernel
theorem d_X0_firstFits_140 : decode c_X0_firstFits 140 = .ok (.goto 4, 3) := by decide +kernel
theorem d_X0_firstFits_143 : decode c_X0_firstFits 143 = .ok (.iconst 0, 1) := by decide +kernel
theorem d_X0_firstFits_144 : decode c_X0_firstFits 144 = .ok (.ireturn, 1) := by decide +kernel
theorem d_X0_firstFits_145 : decode c_X0_firstFits 145 = .ok (.aload_n 0, 1) := by decide +kernel
theorem d_X0_firstFits_146 : decode c_X0_firstFits 146 = .ok (.iload_n 2, 1) := by decide +kernel
theorem d_X0_firstFits_147 : decode c_X0_firstFits 147 = .ok (.invokevirtual 71, 3) := by decide +kernel
theorem d_X0_firstFits_150 : decode c_X0_firstFits 150 = .ok (.ireturn, 1) := by decide +kernel
theorem d_X0_levelOf_0 : decode c_X0_levelOf 0 = .ok (.iload_n 1, 1) := by decide +kernel
theorem d_X0_levelOf_1 : decode c_X0_levelOf 1 = .ok (.iconst (-1), 1) := by decide +kernel
theorem d_X0_levelOf_2 : decode c_X0_levelOf 2 = .ok (.if_icmp .ne 7, 3) := by decide +kernel
theorem d_X0_levelOf_5 : decode c_X0_levelOf 5 = .ok (.iconst 0, 1) := by decide +kernel
theorem d_X0_levelOf_6 : decode c_X0_levelOf 6 = .ok (.goto 9, 3) := by decide +kernel
theorem d_X0_levelOf_9 : decode c_X0_levelOf 9 = .ok (.aload_n 0, 1) := by decide +kernel
theorem d_X0_levelOf_10 : decode c_X0_levelOf 10 = .ok (.getfield 24, 3) := by decide +kernel
theorem d_X0_levelOf_13 : decode c_X0_levelOf 13 = .ok (.iload_n 1, 1) := by decide +kernel
theorem d_X0_levelOf_14 : decode c_X0_levelOf 14 = .ok (.iaload, 1) := by decide +kernel
theorem d_X0_levelOf_15 : decode c_X0_levelOf 15 = .ok (.ireturn, 1) := by decide +kernel
theorem d_X0_rankOf_0 : decode c_X0_rankOf 0 = .ok (.iload_n 1, 1) := by decide +kernel
theorem d_X0_rankOf_1 : decode c_X0_rankOf 1 = .ok (.iconst (-1), 1) := by decide +kernel
theorem d_X0_rankOf_2 : decode c_X0_rankOf 2 = .ok (.if_icmp .ne 7, 3) := by decide +kernel
theorem d_X0_rankOf_5 : decode c_X0_rankOf 5 = .ok (.iconst 0, 1) := by decide +kernel
theorem d_X0_rankOf_6 : decode c_X0_rankOf 6 = .ok (.goto 9, 3) := by decide +kernel
theorem d_X0_rankOf_9 : decode c_X0_rankOf 9 = .ok (.aload_n 0, 1) := by decide +kernel
theorem d_X0_rankOf_10 : decode c_X0_rankOf 10 = .ok (.getfield 27, 3) := by decide +kernel
theorem d_X0_rankOf_13 : decode c_X0_rankOf 13 = .ok (.iload_n 1, 1) := by decide +kernel
theorem d_X0_rankOf_14 : decode c_X0_rankOf 14 = .ok (.iaload, 1) := by decide +kernel
theorem d_X0_rankOf_15 : decode c_X0_rankOf 15 = .ok (.ireturn, 1) := by decide +kernel
theorem d_X0_putInOrder_0 : decode c_X0_putInOrder 0 = .ok (.iload_n 1, 1) := by decide +kernel
theorem d_X0_putInOrder_1 : decode c_X0_putInOrder 1 = .ok (.istore_n 2, 1) := by decide +kernel
theorem d_X0_putInOrder_2 : decode c_X0_putInOrder 2 = .ok (.iload_n 2, 1) := by decide +kernel
theorem d_X0_putInOrder_3 : decode c_X0_putInOrder 3 = .ok (.ifCond .le 45, 3) := by decide +kernel
theorem d_X0_putInOrder_6 : decode c_X0_putInOrder 6 = .ok (.aload_n 0, 1) := by decide +kernel
theorem d_X0_putInOrder_7 : decode c_X0_putInOrder 7 = .ok (.getfield 27, 3) := by decide +kernel
theorem d_X0_putInOrder_10 : decode c_X0_putInOrder 10 = .ok (.aload_n 0, 1) := by decide +kernel
theorem d_X0_putInOrder_11 : decode c_X0_putInOrder 11 = .ok (.getfield 30, 3) := by decide +kernel
theorem d_X0_putInOrder_14 : decode c_X0_putInOrder 14 = .ok (.iload_n 2, 1) := by decide +kernel
theorem d_X0_putInOrder_15 : decode c_X0_putInOrder 15 = .ok (.iconst 1, 1) := by decide +kernel
theorem d_X0_putInOrder_16 : decode c_X0_putInOrder 16 = .ok (.isub, 1) := by decide +kernel
theorem d_X0_putInOrder_17 : decode c_X0_putInOrder 17 = .ok (.iaload, 1) := by decide +kernel
theorem d_X0_putInOrder_18 : decode c_X0_putInOrder 18 = .ok (.iaload, 1) := by decide +kernel
theorem d_X0_putInOrder_19 : decode c_X0_putInOrder 19 = .ok (.aload_n 0, 1) := by decide +kernel
theorem d_X0_putInOrder_20 : decode c_X0_putInOrder 20 = .ok (.getfield 27, 3) := by decide +kernel
theorem d_X0_putInOrder_23 : decode c_X0_putInOrder 23 = .ok (.iload_n 1, 1) := by decide +kernel
theorem d_X0_putInOrder_24 : decode c_X0_putInOrder 24 = .ok (.iaload, 1) := by decide +kernel
theorem d_X0_putInOrder_25 : decode c_X0_putInOrder 25 = .ok (.if_icmp .le 23, 3) := by decide +kernel
theorem d_X0_putInOrder_28 : decode c_X0_putInOrder 28 = .ok (.aload_n 0, 1) := by decide +kernel
theorem d_X0_putInOrder_29 : decode c_X0_putInOrder 29 = .ok (.getfield 30, 3) := by decide +kernel
theorem d_X0_putInOrder_32 : decode c_X0_putInOrder 32 = .ok (.iload_n 2, 1) := by decide +kernel
theorem d_X0_putInOrder_33 : decode c_X0_putInOrder 33 = .ok (.aload_n 0, 1) := by decide +kernel
theorem d_X0_putInOrder_34 : decode c_X0_putInOrder 34 = .ok (.getfield 30, 3) := by decide +kernel
theorem d_X0_putInOrder_37 : decode c_X0_putInOrder 37 = .ok (.iload_n 2, 1) := by decide +kernel
theorem d_X0_putInOrder_38 : decode c_X0_putInOrder 38 = .ok (.iconst 1, 1) := by decide +kernel
theorem d_X0_putInOrder_39 : decode c_X0_putInOrder 39 = .ok (.isub, 1) := by decide +kernel
theorem d_X0_putInOrder_40 : decode c_X0_putInOrder 40 = .ok (.iaload, 1) := by decide +kernel
theorem d_X0_putInOrder_41 : decode c_X0_putInOrder 41 = .ok (.iastore, 1) := by decide +kernel
theorem d_X0_putInOrder_42 : decode c_X0_putInOrder 42 = .ok (.iinc 2 (-1), 3) := by decide +kernel
theorem d_X0_putInOrder_45 : decode c_X0_putInOrder 45 = .ok (.goto (-43), 3) := by decide +kernel
theorem d_X0_putInOrder_48 : decode c_X0_putInOrder 48 = .ok (.aload_n 0, 1) := by decide +kernel
theorem d_X0_putInOrder_49 : decode c_X0_putInOrder 49 = .ok (.getfield 30, 3) := by decide +kernel
theorem d_X0_putInOrder_52 : decode c_X0_putInOrder 52 = .ok (.iload_n 2, 1) := by decide +kernel
theorem d_X0_putInOrder_53 : decode c_X0_putInOrder 53 = .ok (.iload_n 1, 1) := by decide +kernel
theorem d_X0_putInOrder_54 : decode c_X0_putInOrder 54 = .ok (.iastore, 1) := by decide +kernel
theorem d_X0_putInOrder_55 : decode c_X0_putInOrder 55 = .ok (.return_, 1) := by decide +kernel
theorem d_X1_init_0 : decode c_X1_init 0 = .ok (.aload_n 0, 1) := by decide +kernel
theorem d_X1_init_1 : decode c_X1_init 1 = .ok (.invokespecial 3, 3) := by decide +kernel
theorem d_X1_init_4 : decode c_X1_init 4 = .ok (.aload_n 0, 1) := by decide +kernel
theorem d_X1_init_5 : decode c_X1_init 5 = .ok (.bipush 8, 2) := by decide +kernel
theorem d_X1_init_7 : decode c_X1_init 7 = .ok (.newarray .int, 2) := by decide +kernel
theorem d_X1_init_9 : decode c_X1_init 9 = .ok (.putfield 9, 3) := by decide +kernel
theorem d_X1_init_12 : decode c_X1_init 12 = .ok (.return_, 1) := by decide +kernel
theorem d_X1_paidSoFar_0 : decode c_X1_paidSoFar 0 = .ok (.iload_n 1, 1) := by decide +kernel
theorem d_X1_paidSoFar_1 : decode c_X1_paidSoFar 1 = .ok (.ifCond .ne 10, 3) := by decide +kernel
theorem d_X1_paidSoFar_4 : decode c_X1_paidSoFar 4 = .ok (.aload_n 0, 1) := by decide +kernel
theorem d_X1_paidSoFar_5 : decode c_X1_paidSoFar 5 = .ok (.getfield 15, 3) := by decide +kernel
theorem d_X1_paidSoFar_8 : decode c_X1_paidSoFar 8 = .ok (.goto 7, 3) := by decide +kernel
theorem d_X1_paidSoFar_11 : decode c_X1_paidSoFar 11 = .ok (.aload_n 0, 1) := by decide +kernel
theorem d_X1_paidSoFar_12 : decode c_X1_paidSoFar 12 = .ok (.getfield 19, 3) := by decide +kernel
theorem d_X1_paidSoFar_15 : decode c_X1_paidSoFar 15 = .ok (.lreturn, 1) := by decide +kernel
theorem d_X1_paidIsInt_0 : decode c_X1_paidIsInt 0 = .ok (.aload_n 0, 1) := by decide +kernel
theorem d_X1_paidIsInt_1 : decode c_X1_paidIsInt 1 = .ok (.getfield 15, 3) := by decide +kernel
theorem d_X1_paidIsInt_4 : decode c_X1_paidIsInt 4 = .ok (.invokestatic 22, 3) := by decide +kernel
theorem d_X1_paidIsInt_7 : decode c_X1_paidIsInt 7 = .ok (.ifCond .eq 17, 3) := by decide +kernel
theorem d_X1_paidIsInt_10 : decode c_X1_paidIsInt 10 = .ok (.aload_n 0, 1) := by decide +kernel
theorem d_X1_paidIsInt_11 : decode c_X1_paidIsInt 11 = .ok (.getfield 19, 3) := by decide +kernel
theorem d_X1_paidIsInt_14 : decode c_X1_paidIsInt 14 = .ok (.invokestatic 22, 3) := by decide +kernel
theorem d_X1_paidIsInt_17 : decode c_X1_paidIsInt 17 = .ok (.ifCond .eq 7, 3) := by decide +kernel
theorem d_X1_paidIsInt_20 : decode c_X1_paidIsInt 20 = .ok (.iconst 1, 1) := by decide +kernel
theorem d_X1_paidIsInt_21 : decode c_X1_paidIsInt 21 = .ok (.goto 4, 3) := by decide +kernel
theorem d_X1_paidIsInt_24 : decode c_X1_paidIsInt 24 = .ok (.iconst 0, 1) := by decide +kernel
theorem d_X1_paidIsInt_25 : decode c_X1_paidIsInt 25 = .ok (.ireturn, 1) := by decide +kernel
theorem d_X1_grow_0 : decode c_X1_grow 0 = .ok (.aload_n 0, 1) := by decide +kernel
theorem d_X1_grow_1 : decode c_X1_grow 1 = .ok (.dup, 1) := by decide +kernel
theorem d_X1_grow_2 : decode c_X1_grow 2 = .ok (.getfield 15, 3) := by decide +kernel
theorem d_X1_grow_5 : decode c_X1_grow 5 = .ok (.lload_n 1, 1) := by decide +kernel
theorem d_X1_grow_6 : decode c_X1_grow 6 = .ok (.ladd, 1) := by decide +kernel
theorem d_X1_grow_7 : decode c_X1_grow 7 = .ok (.putfield 15, 3) := by decide +kernel
theorem d_X1_grow_10 : decode c_X1_grow 10 = .ok (.aload_n 0, 1) := by decide +kernel
theorem d_X1_grow_11 : decode c_X1_grow 11 = .ok (.dup, 1) := by decide +kernel
theorem d_X1_grow_12 : decode c_X1_grow 12 = .ok (.getfield 19, 3) := by decide +kernel
theorem d_X1_grow_15 : decode c_X1_grow 15 = .ok (.lload_n 3, 1) := by decide +kernel
theorem d_X1_grow_16 : decode c_X1_grow 16 = .ok (.ladd, 1) := by decide +kernel
theorem d_X1_grow_17 : decode c_X1_grow 17 = .ok (.putfield 19, 3) := by decide +kernel
theorem d_X1_grow_20 : decode c_X1_grow 20 = .ok (.return_, 1) := by decide +kernel
theorem d_X1_reasonToHold_0 : decode c_X1_reasonToHold 0 = .ok (.lload_n 1, 1) := by decide +kernel
theorem d_X1_reasonToHold_1 : decode c_X1_reasonToHold 1 = .ok (.invokestatic 22, 3) := by decide +kernel
theorem d_X1_reasonToHold_4 : decode c_X1_reasonToHold 4 = .ok (.ifCond .ne 8, 3) := by decide +kernel
theorem d_X1_reasonToHold_7 : decode c_X1_reasonToHold 7 = .ok (.lload_n 1, 1) := by decide +kernel
theorem d_X1_reasonToHold_8 : decode c_X1_reasonToHold 8 = .ok (.invokestatic 28, 3) := by decide +kernel
theorem d_X1_reasonToHold_11 : decode c_X1_reasonToHold 11 = .ok (.ireturn, 1) := by decide +kernel
theorem d_X1_reasonToHold_12 : decode c_X1_reasonToHold 12 = .ok (.lload_n 3, 1) := by decide +kernel
theorem d_X1_reasonToHold_13 : decode c_X1_reasonToHold 13 = .ok (.invokestatic 22, 3) := by decide +kernel
theorem d_X1_reasonToHold_16 : decode c_X1_reasonToHold 16 = .ok (.ifCond .ne 8, 3) := by decide +kernel
theorem d_X1_reasonToHold_19 : decode c_X1_reasonToHold 19 = .ok (.lload_n 3, 1) := by decide +kernel
theorem d_X1_reasonToHold_20 : decode c_X1_reasonToHold 20 = .ok (.invokestatic 28, 3) := by decide +kernel
theorem d_X1_reasonToHold_23 : decode c_X1_reasonToHold 23 = .ok (.ireturn, 1) := by decide +kernel
theorem d_X1_reasonToHold_24 : decode c_X1_reasonToHold 24 = .ok (.lload 5, 2) := by decide +kernel
theorem d_X1_reasonToHold_26 : decode c_X1_reasonToHold 26 = .ok (.invokestatic 22, 3) := by decide +kernel
theorem d_X1_reasonToHold_29 : decode c_X1_reasonToHold 29 = .ok (.ifCond .ne 9, 3) := by decide +kernel
theorem d_X1_reasonToHold_32 : decode c_X1_reasonToHold 32 = .ok (.lload 5, 2) := by decide +kernel
theorem d_X1_reasonToHold_34 : decode c_X1_reasonToHold 34 = .ok (.invokestatic 28, 3) := by decide +kernel
theorem d_X1_reasonToHold_37 : decode c_X1_reasonToHold 37 = .ok (.ireturn, 1) := by decide +kernel
theorem d_X1_reasonToHold_38 : decode c_X1_reasonToHold 38 = .ok (.lload_n 1, 1) := by decide +kernel
theorem d_X1_reasonToHold_39 : decode c_X1_reasonToHold 39 = .ok (.lload_n 3, 1) := by decide +kernel
theorem d_X1_reasonToHold_40 : decode c_X1_reasonToHold 40 = .ok (.lsub, 1) := by decide +kernel
theorem d_X1_reasonToHold_41 : decode c_X1_reasonToHold 41 = .ok (.lload 5, 2) := by decide +kernel
theorem d_X1_reasonToHold_43 : decode c_X1_reasonToHold 43 = .ok (.lcmp, 1) := by decide +kernel
theorem d_X1_reasonToHold_44 : decode c_X1_reasonToHold 44 = .ok (.ifCond .eq 5, 3) := by decide +kernel
theorem d_X1_reasonToHold_47 : decode c_X1_reasonToHold 47 = .ok (.iconst 5, 1) := by decide +kernel
theorem d_X1_reasonToHold_48 : decode c_X1_reasonToHold 48 = .ok (.ireturn, 1) := by decide +kernel
theorem d_X1_reasonToHold_49 : decode c_X1_reasonToHold 49 = .ok (.aload_n 0, 1) := by decide +kernel
theorem d_X1_reasonToHold_50 : decode c_X1_reasonToHold 50 = .ok (.getfield 15, 3) := by decide +kernel
theorem d_X1_reasonToHold_53 : decode c_X1_reasonToHold 53 = .ok (.lload_n 1, 1) := by decide +kernel
theorem d_X1_reasonToHold_54 : decode c_X1_reasonToHold 54 = .ok (.ladd, 1) := by decide +kernel
theorem d_X1_reasonToHold_55 : decode c_X1_reasonToHold 55 = .ok (.invokestatic 22, 3) := by decide +kernel
theorem d_X1_reasonToHold_58 : decode c_X1_reasonToHold 58 = .ok (.ifCond .eq 15, 3) := by decide +kernel
theorem d_X1_reasonToHold_61 : decode c_X1_reasonToHold 61 = .ok (.aload_n 0, 1) := by decide +kernel
theorem d_X1_reasonToHold_62 : decode c_X1_reasonToHold 62 = .ok (.getfield 19, 3) := by decide +kernel
theorem d_X1_reasonToHold_65 : decode c_X1_reasonToHold 65 = .ok (.lload_n 3, 1) := by decide +kernel
theorem d_X1_reasonToHold_66 : decode c_X1_reasonToHold 66 = .ok (.ladd, 1) := by decide +kernel
theorem d_X1_reasonToHold_67 : decode c_X1_reasonToHold 67 = .ok (.invokestatic 22, 3) := by decide +kernel
theorem d_X1_reasonToHold_70 : decode c_X1_reasonToHold 70 = .ok (.ifCond .ne 6, 3) := by decide +kernel
theorem d_X1_reasonToHold_73 : decode c_X1_reasonToHold 73 = .ok (.bipush 6, 2) := by decide +kernel
theorem d_X1_reasonToHold_75 : decode c_X1_reasonToHold 75 = .ok (.ireturn, 1) := by decide +kernel
theorem d_X1_reasonToHold_76 : decode c_X1_reasonToHold 76 = .ok (.iconst 0, 1) := by decide +kernel
theorem d_X1_reasonToHold_77 : decode c_X1_reasonToHold 77 = .ok (.ireturn, 1) := by decide +kernel
theorem d_X1_reasonOf_0 : decode c_X1_reasonOf 0 = .ok (.lload_n 0, 1) := by decide +kernel
theorem d_X1_reasonOf_1 : decode c_X1_reasonOf 1 = .ok (.invokestatic 32, 3) := by decide +kernel
theorem d_X1_reasonOf_4 : decode c_X1_reasonOf 4 = .ok (.ldc2_w 36, 3) := by decide +kernel
theorem d_X1_reasonOf_7 : decode c_X1_reasonOf 7 = .ok (.lsub, 1) := by decide +kernel
theorem d_X1_reasonOf_8 : decode c_X1_reasonOf 8 = .ok (.l2i, 1) := by decide +kernel
theorem d_X1_reasonOf_9 : decode c_X1_reasonOf 9 = .ok (.ireturn, 1) := by decide +kernel
theorem d_X2_init_0 : decode c_X2_init 0 = .ok (.aload_n 0, 1) := by decide +kernel
theorem d_X2_init_1 : decode c_X2_init 1 = .ok (.invokespecial 3, 3) := by decide +kernel
theorem d_X2_init_4 : decode c_X2_init 4 = .ok (.aload_n 0, 1) := by decide +kernel
theorem d_X2_init_5 : decode c_X2_init 5 = .ok (.new 9, 3) := by decide +kernel
theorem d_X2_init_8 : decode c_X2_init 8 = .ok (.dup, 1) := by decide +kernel
theorem d_X2_init_9 : decode c_X2_init 9 = .ok (.invokespecial 11, 3) := by decide +kernel
theorem d_X2_init_12 : decode c_X2_init 12 = .ok (.putfield 12, 3) := by decide +kernel
theorem d_X2_init_15 : decode c_X2_init 15 = .ok (.aload_n 0, 1) := by decide +kernel
theorem d_X2_init_16 : decode c_X2_init 16 = .ok (.bipush 8, 2) := by decide +kernel
theorem d_X2_init_18 : decode c_X2_init 18 = .ok (.newarray .int, 2) := by decide +kernel
theorem d_X2_init_20 : decode c_X2_init 20 = .ok (.putfield 18, 3) := by decide +kernel
theorem d_X2_init_23 : decode c_X2_init 23 = .ok (.aload_n 0, 1) := by decide +kernel
theorem d_X2_init_24 : decode c_X2_init 24 = .ok (.iconst 2, 1) := by decide +kernel
theorem d_X2_init_25 : decode c_X2_init 25 = .ok (.anewarray 22, 3) := by decide +kernel
theorem d_X2_init_28 : decode c_X2_init 28 = .ok (.putfield 24, 3) := by decide +kernel
theorem d_X2_init_31 : decode c_X2_init 31 = .ok (.aload_n 0, 1) := by decide +kernel
theorem d_X2_init_32 : decode c_X2_init 32 = .ok (.bipush 70, 2) := by decide +kernel
theorem d_X2_init_34 : decode c_X2_init 34 = .ok (.newarray .long, 2) := by decide +kernel
theorem d_X2_init_36 : decode c_X2_init 36 = .ok (.putfield 28, 3) := by decide +kernel
theorem d_X2_init_39 : decode c_X2_init 39 = .ok (.aload_n 0, 1) := by decide +kernel
theorem d_X2_init_40 : decode c_X2_init 40 = .ok (.getfield 18, 3) := by decide +kernel
theorem d_X2_init_43 : decode c_X2_init 43 = .ok (.iconst (-1), 1) := by decide +kernel
theorem d_X2_init_44 : decode c_X2_init 44 = .ok (.invokestatic 32, 3) := by decide +kernel
theorem d_X2_init_47 : decode c_X2_init 47 = .ok (.iconst 0, 1) := by decide +kernel
theorem d_X2_init_48 : decode c_X2_init 48 = .ok (.istore_n 1, 1) := by decide +kernel
theorem d_X2_init_49 : decode c_X2_init 49 = .ok (.iload_n 1, 1) := by decide +kernel
theorem d_X2_init_50 : decode c_X2_init 50 = .ok (.iconst 2, 1) := by decide +kernel
theorem d_X2_init_51 : decode c_X2_init 51 = .ok (.if_icmp .ge 22, 3) := by decide +kernel
theorem d_X2_init_54 : decode c_X2_init 54 = .ok (.aload_n 0, 1) := by decide +kernel
theorem d_X2_init_55 : decode c_X2_init 55 = .ok (.getfield 24, 3) := by decide +kernel
theorem d_X2_init_58 : decode c_X2_init 58 = .ok (.iload_n 1, 1) := by decide +kernel
theorem d_X2_init_59 : decode c_X2_init 59 = .ok (.new 22, 3) := by decide +kernel
theorem d_X2_init_62 : decode c_X2_init 62 = .ok (.dup, 1) := by decide +kernel
theorem d_X2_init_63 : decode c_X2_init 63 = .ok (.invokespecial 38, 3) := by decide +kernel
theorem d_X2_init_66 : decode c_X2_init 66 = .ok (.aastore, 1) := by decide +kernel
theorem d_X2_init_67 : decode c_X2_init 67 = .ok (.iinc 1 1, 3) := by decide +kernel
theorem d_X2_init_70 : decode c_X2_init 70 = .ok (.goto (-21), 3) := by decide +kernel
theorem d_X2_init_73 : decode c_X2_init 73 = .ok (.return_, 1) := by decide +kernel
theorem d_X2_definitionBits_0 : decode c_X2_definitionBits 0 = .ok (.iconst 0, 1) := by decide +kernel
theorem d_X2_definitionBits_1 : decode c_X2_definitionBits 1 = .ok (.istore_n 1, 1) := by decide +kernel
theorem d_X2_definitionBits_2 : decode c_X2_definitionBits 2 = .ok (.iconst 0, 1) := by decide +kernel
theorem d_X2_definitionBits_3 : decode c_X2_definitionBits 3 = .ok (.istore_n 2, 1) := by decide +kernel
