theorem d_X6_init_0 : decode c_X6_init 0 = .ok (.aload_n 0, 1) := by decide +kernel
theorem d_X6_init_1 : decode c_X6_init 1 = .ok (.invokespecial 3, 3) := by decide +kernel
theorem d_X6_init_4 : decode c_X6_init 4 = .ok (.aload_n 0, 1) := by decide +kernel
theorem d_X6_init_5 : decode c_X6_init 5 = .ok (.new 9, 3) := by decide +kernel
theorem d_X6_init_8 : decode c_X6_init 8 = .ok (.dup, 1) := by decide +kernel
theorem d_X6_init_9 : decode c_X6_init 9 = .ok (.invokespecial 11, 3) := by decide +kernel
theorem d_X6_init_12 : decode c_X6_init 12 = .ok (.putfield 12, 3) := by decide +kernel
theorem d_X6_init_15 : decode c_X6_init 15 = .ok (.aload_n 0, 1) := by decide +kernel
theorem d_X6_init_16 : decode c_X6_init 16 = .ok (.bipush 6, 2) := by decide +kernel
theorem d_X6_init_18 : decode c_X6_init 18 = .ok (.anewarray 16, 3) := by decide +kernel
theorem d_X6_init_21 : decode c_X6_init 21 = .ok (.putfield 18, 3) := by decide +kernel
theorem d_X6_init_24 : decode c_X6_init 24 = .ok (.iconst 0, 1) := by decide +kernel
theorem d_X6_init_25 : decode c_X6_init 25 = .ok (.istore_n 1, 1) := by decide +kernel
theorem d_X6_init_26 : decode c_X6_init 26 = .ok (.iload_n 1, 1) := by decide +kernel
theorem d_X6_init_27 : decode c_X6_init 27 = .ok (.bipush 6, 2) := by decide +kernel
theorem d_X6_init_29 : decode c_X6_init 29 = .ok (.if_icmp .ge 22, 3) := by decide +kernel
theorem d_X6_init_32 : decode c_X6_init 32 = .ok (.aload_n 0, 1) := by decide +kernel
theorem d_X6_init_33 : decode c_X6_init 33 = .ok (.getfield 18, 3) := by decide +kernel
theorem d_X6_init_36 : decode c_X6_init 36 = .ok (.iload_n 1, 1) := by decide +kernel
theorem d_X6_init_37 : decode c_X6_init 37 = .ok (.new 16, 3) := by decide +kernel
theorem d_X6_init_40 : decode c_X6_init 40 = .ok (.dup, 1) := by decide +kernel
theorem d_X6_init_41 : decode c_X6_init 41 = .ok (.invokespecial 22, 3) := by decide +kernel
theorem d_X6_init_44 : decode c_X6_init 44 = .ok (.aastore, 1) := by decide +kernel
theorem d_X6_init_45 : decode c_X6_init 45 = .ok (.iinc 1 1, 3) := by decide +kernel
theorem d_X6_init_48 : decode c_X6_init 48 = .ok (.goto (-22), 3) := by decide +kernel
theorem d_X6_init_51 : decode c_X6_init 51 = .ok (.aload_n 0, 1) := by decide +kernel
theorem d_X6_init_52 : decode c_X6_init 52 = .ok (.new 23, 3) := by decide +kernel
theorem d_X6_init_55 : decode c_X6_init 55 = .ok (.dup, 1) := by decide +kernel
theorem d_X6_init_56 : decode c_X6_init 56 = .ok (.invokespecial 25, 3) := by decide +kernel
theorem d_X6_init_59 : decode c_X6_init 59 = .ok (.putfield 26, 3) := by decide +kernel
theorem d_X6_init_62 : decode c_X6_init 62 = .ok (.return_, 1) := by decide +kernel
theorem d_X6_node_0 : decode c_X6_node 0 = .ok (.aload_n 0, 1) := by decide +kernel
theorem d_X6_node_1 : decode c_X6_node 1 = .ok (.getfield 12, 3) := by decide +kernel
theorem d_X6_node_4 : decode c_X6_node 4 = .ok (.getfield 30, 3) := by decide +kernel
theorem d_X6_node_7 : decode c_X6_node 7 = .ok (.iload_n 1, 1) := by decide +kernel
theorem d_X6_node_8 : decode c_X6_node 8 = .ok (.iload_n 2, 1) := by decide +kernel
theorem d_X6_node_9 : decode c_X6_node 9 = .ok (.iload_n 3, 1) := by decide +kernel
theorem d_X6_node_10 : decode c_X6_node 10 = .ok (.iload 4, 2) := by decide +kernel
theorem d_X6_node_12 : decode c_X6_node 12 = .ok (.invokevirtual 34, 3) := by decide +kernel
theorem d_X6_node_15 : decode c_X6_node 15 = .ok (.ireturn, 1) := by decide +kernel
theorem d_X6_define_0 : decode c_X6_define 0 = .ok (.iload_n 1, 1) := by decide +kernel
theorem d_X6_define_1 : decode c_X6_define 1 = .ok (.bipush 8, 2) := by decide +kernel
theorem d_X6_define_3 : decode c_X6_define 3 = .ok (.invokestatic 40, 3) := by decide +kernel
theorem d_X6_define_6 : decode c_X6_define 6 = .ok (.ifCond .eq 33, 3) := by decide +kernel
theorem d_X6_define_9 : decode c_X6_define 9 = .ok (.aload_n 0, 1) := by decide +kernel
theorem d_X6_define_10 : decode c_X6_define 10 = .ok (.getfield 12, 3) := by decide +kernel
theorem d_X6_define_13 : decode c_X6_define 13 = .ok (.getfield 30, 3) := by decide +kernel
theorem d_X6_define_16 : decode c_X6_define 16 = .ok (.iload_n 2, 1) := by decide +kernel
theorem d_X6_define_17 : decode c_X6_define 17 = .ok (.invokevirtual 44, 3) := by decide +kernel
theorem d_X6_define_20 : decode c_X6_define 20 = .ok (.ifCond .eq 19, 3) := by decide +kernel
theorem d_X6_define_23 : decode c_X6_define 23 = .ok (.aload_n 0, 1) := by decide +kernel
theorem d_X6_define_24 : decode c_X6_define 24 = .ok (.getfield 12, 3) := by decide +kernel
theorem d_X6_define_27 : decode c_X6_define 27 = .ok (.getfield 30, 3) := by decide +kernel
theorem d_X6_define_30 : decode c_X6_define 30 = .ok (.getfield 48, 3) := by decide +kernel
theorem d_X6_define_33 : decode c_X6_define 33 = .ok (.iload_n 2, 1) := by decide +kernel
theorem d_X6_define_34 : decode c_X6_define 34 = .ok (.iaload, 1) := by decide +kernel
theorem d_X6_define_35 : decode c_X6_define 35 = .ok (.iload_n 1, 1) := by decide +kernel
theorem d_X6_define_36 : decode c_X6_define 36 = .ok (.if_icmp .le 5, 3) := by decide +kernel
theorem d_X6_define_39 : decode c_X6_define 39 = .ok (.iconst (-1), 1) := by decide +kernel
theorem d_X6_define_40 : decode c_X6_define 40 = .ok (.ireturn, 1) := by decide +kernel
theorem d_X6_define_41 : decode c_X6_define 41 = .ok (.aload_n 0, 1) := by decide +kernel
theorem d_X6_define_42 : decode c_X6_define 42 = .ok (.getfield 12, 3) := by decide +kernel
theorem d_X6_define_45 : decode c_X6_define 45 = .ok (.getfield 52, 3) := by decide +kernel
theorem d_X6_define_48 : decode c_X6_define 48 = .ok (.iload_n 1, 1) := by decide +kernel
theorem d_X6_define_49 : decode c_X6_define 49 = .ok (.iload_n 2, 1) := by decide +kernel
theorem d_X6_define_50 : decode c_X6_define 50 = .ok (.iastore, 1) := by decide +kernel
theorem d_X6_define_51 : decode c_X6_define 51 = .ok (.iconst 0, 1) := by decide +kernel
theorem d_X6_define_52 : decode c_X6_define 52 = .ok (.ireturn, 1) := by decide +kernel
theorem d_X6_undefine_0 : decode c_X6_undefine 0 = .ok (.iload_n 1, 1) := by decide +kernel
theorem d_X6_undefine_1 : decode c_X6_undefine 1 = .ok (.bipush 8, 2) := by decide +kernel
theorem d_X6_undefine_3 : decode c_X6_undefine 3 = .ok (.invokestatic 40, 3) := by decide +kernel
theorem d_X6_undefine_6 : decode c_X6_undefine 6 = .ok (.ifCond .ne 5, 3) := by decide +kernel
theorem d_X6_undefine_9 : decode c_X6_undefine 9 = .ok (.iconst (-1), 1) := by decide +kernel
theorem d_X6_undefine_10 : decode c_X6_undefine 10 = .ok (.ireturn, 1) := by decide +kernel
theorem d_X6_undefine_11 : decode c_X6_undefine 11 = .ok (.aload_n 0, 1) := by decide +kernel
theorem d_X6_undefine_12 : decode c_X6_undefine 12 = .ok (.getfield 12, 3) := by decide +kernel
theorem d_X6_undefine_15 : decode c_X6_undefine 15 = .ok (.getfield 52, 3) := by decide +kernel
theorem d_X6_undefine_18 : decode c_X6_undefine 18 = .ok (.iload_n 1, 1) := by decide +kernel
theorem d_X6_undefine_19 : decode c_X6_undefine 19 = .ok (.iconst (-1), 1) := by decide +kernel
theorem d_X6_undefine_20 : decode c_X6_undefine 20 = .ok (.iastore, 1) := by decide +kernel
theorem d_X6_undefine_21 : decode c_X6_undefine 21 = .ok (.iconst 0, 1) := by decide +kernel
theorem d_X6_undefine_22 : decode c_X6_undefine 22 = .ok (.ireturn, 1) := by decide +kernel
theorem d_X6_step_0 : decode c_X6_step 0 = .ok (.iload_n 1, 1) := by decide +kernel
theorem d_X6_step_1 : decode c_X6_step 1 = .ok (.iconst 2, 1) := by decide +kernel
theorem d_X6_step_2 : decode c_X6_step 2 = .ok (.invokestatic 40, 3) := by decide +kernel
theorem d_X6_step_5 : decode c_X6_step 5 = .ok (.ifCond .eq 20, 3) := by decide +kernel
theorem d_X6_step_8 : decode c_X6_step 8 = .ok (.aload_n 0, 1) := by decide +kernel
theorem d_X6_step_9 : decode c_X6_step 9 = .ok (.getfield 12, 3) := by decide +kernel
theorem d_X6_step_12 : decode c_X6_step 12 = .ok (.getfield 55, 3) := by decide +kernel
theorem d_X6_step_15 : decode c_X6_step 15 = .ok (.iload_n 1, 1) := by decide +kernel
theorem d_X6_step_16 : decode c_X6_step 16 = .ok (.aaload, 1) := by decide +kernel
theorem d_X6_step_17 : decode c_X6_step 17 = .ok (.iload_n 2, 1) := by decide +kernel
theorem d_X6_step_18 : decode c_X6_step 18 = .ok (.iload_n 3, 1) := by decide +kernel
theorem d_X6_step_19 : decode c_X6_step 19 = .ok (.invokevirtual 59, 3) := by decide +kernel
theorem d_X6_step_22 : decode c_X6_step 22 = .ok (.goto 4, 3) := by decide +kernel
theorem d_X6_step_25 : decode c_X6_step 25 = .ok (.iconst (-1), 1) := by decide +kernel
theorem d_X6_step_26 : decode c_X6_step 26 = .ok (.ireturn, 1) := by decide +kernel
theorem d_X6_clear_0 : decode c_X6_clear 0 = .ok (.iload_n 1, 1) := by decide +kernel
theorem d_X6_clear_1 : decode c_X6_clear 1 = .ok (.iconst 2, 1) := by decide +kernel
theorem d_X6_clear_2 : decode c_X6_clear 2 = .ok (.invokestatic 40, 3) := by decide +kernel
theorem d_X6_clear_5 : decode c_X6_clear 5 = .ok (.ifCond .eq 18, 3) := by decide +kernel
theorem d_X6_clear_8 : decode c_X6_clear 8 = .ok (.aload_n 0, 1) := by decide +kernel
theorem d_X6_clear_9 : decode c_X6_clear 9 = .ok (.getfield 12, 3) := by decide +kernel
theorem d_X6_clear_12 : decode c_X6_clear 12 = .ok (.getfield 55, 3) := by decide +kernel
theorem d_X6_clear_15 : decode c_X6_clear 15 = .ok (.iload_n 1, 1) := by decide +kernel
theorem d_X6_clear_16 : decode c_X6_clear 16 = .ok (.aaload, 1) := by decide +kernel
theorem d_X6_clear_17 : decode c_X6_clear 17 = .ok (.invokevirtual 65, 3) := by decide +kernel
theorem d_X6_clear_20 : decode c_X6_clear 20 = .ok (.goto 4, 3) := by decide +kernel
theorem d_X6_clear_23 : decode c_X6_clear 23 = .ok (.iconst (-1), 1) := by decide +kernel
theorem d_X6_clear_24 : decode c_X6_clear 24 = .ok (.ireturn, 1) := by decide +kernel
theorem d_X6_input_0 : decode c_X6_input 0 = .ok (.iload_n 1, 1) := by decide +kernel
theorem d_X6_input_1 : decode c_X6_input 1 = .ok (.bipush 6, 2) := by decide +kernel
theorem d_X6_input_3 : decode c_X6_input 3 = .ok (.invokestatic 40, 3) := by decide +kernel
theorem d_X6_input_6 : decode c_X6_input 6 = .ok (.ifCond .eq 12, 3) := by decide +kernel
theorem d_X6_input_9 : decode c_X6_input 9 = .ok (.iload_n 2, 1) := by decide +kernel
theorem d_X6_input_10 : decode c_X6_input 10 = .ok (.bipush 8, 2) := by decide +kernel
theorem d_X6_input_12 : decode c_X6_input 12 = .ok (.invokestatic 40, 3) := by decide +kernel
theorem d_X6_input_15 : decode c_X6_input 15 = .ok (.ifCond .ne 5, 3) := by decide +kernel
theorem d_X6_input_18 : decode c_X6_input 18 = .ok (.iconst (-1), 1) := by decide +kernel
theorem d_X6_input_19 : decode c_X6_input 19 = .ok (.ireturn, 1) := by decide +kernel
theorem d_X6_input_20 : decode c_X6_input 20 = .ok (.aload_n 0, 1) := by decide +kernel
theorem d_X6_input_21 : decode c_X6_input 21 = .ok (.getfield 18, 3) := by decide +kernel
theorem d_X6_input_24 : decode c_X6_input 24 = .ok (.iload_n 1, 1) := by decide +kernel
theorem d_X6_input_25 : decode c_X6_input 25 = .ok (.aaload, 1) := by decide +kernel
theorem d_X6_input_26 : decode c_X6_input 26 = .ok (.getfield 69, 3) := by decide +kernel
theorem d_X6_input_29 : decode c_X6_input 29 = .ok (.iload_n 2, 1) := by decide +kernel
theorem d_X6_input_30 : decode c_X6_input 30 = .ok (.iload_n 3, 1) := by decide +kernel
theorem d_X6_input_31 : decode c_X6_input 31 = .ok (.iastore, 1) := by decide +kernel
theorem d_X6_input_32 : decode c_X6_input 32 = .ok (.iconst 0, 1) := by decide +kernel
theorem d_X6_input_33 : decode c_X6_input 33 = .ok (.ireturn, 1) := by decide +kernel
theorem d_X6_activate_0 : decode c_X6_activate 0 = .ok (.iload_n 1, 1) := by decide +kernel
theorem d_X6_activate_1 : decode c_X6_activate 1 = .ok (.bipush 6, 2) := by decide +kernel
theorem d_X6_activate_3 : decode c_X6_activate 3 = .ok (.invokestatic 40, 3) := by decide +kernel
theorem d_X6_activate_6 : decode c_X6_activate 6 = .ok (.ifCond .ne 5, 3) := by decide +kernel
theorem d_X6_activate_9 : decode c_X6_activate 9 = .ok (.iconst (-1), 1) := by decide +kernel
theorem d_X6_activate_10 : decode c_X6_activate 10 = .ok (.ireturn, 1) := by decide +kernel
theorem d_X6_activate_11 : decode c_X6_activate 11 = .ok (.aload_n 0, 1) := by decide +kernel
theorem d_X6_activate_12 : decode c_X6_activate 12 = .ok (.getfield 18, 3) := by decide +kernel
theorem d_X6_activate_15 : decode c_X6_activate 15 = .ok (.iload_n 1, 1) := by decide +kernel
theorem d_X6_activate_16 : decode c_X6_activate 16 = .ok (.aaload, 1) := by decide +kernel
theorem d_X6_activate_17 : decode c_X6_activate 17 = .ok (.iload_n 2, 1) := by decide +kernel
theorem d_X6_activate_18 : decode c_X6_activate 18 = .ok (.putfield 72, 3) := by decide +kernel
theorem d_X6_activate_21 : decode c_X6_activate 21 = .ok (.iconst 0, 1) := by decide +kernel
theorem d_X6_activate_22 : decode c_X6_activate 22 = .ok (.ireturn, 1) := by decide +kernel
theorem d_X6_value_0 : decode c_X6_value 0 = .ok (.iload_n 1, 1) := by decide +kernel
theorem d_X6_value_1 : decode c_X6_value 1 = .ok (.bipush 6, 2) := by decide +kernel
theorem d_X6_value_3 : decode c_X6_value 3 = .ok (.invokestatic 40, 3) := by decide +kernel
theorem d_X6_value_6 : decode c_X6_value 6 = .ok (.ifCond .eq 29, 3) := by decide +kernel
theorem d_X6_value_9 : decode c_X6_value 9 = .ok (.aload_n 0, 1) := by decide +kernel
theorem d_X6_value_10 : decode c_X6_value 10 = .ok (.getfield 12, 3) := by decide +kernel
theorem d_X6_value_13 : decode c_X6_value 13 = .ok (.getfield 30, 3) := by decide +kernel
theorem d_X6_value_16 : decode c_X6_value 16 = .ok (.iload_n 2, 1) := by decide +kernel
theorem d_X6_value_17 : decode c_X6_value 17 = .ok (.invokevirtual 44, 3) := by decide +kernel
theorem d_X6_value_20 : decode c_X6_value 20 = .ok (.ifCond .eq 15, 3) := by decide +kernel
theorem d_X6_value_23 : decode c_X6_value 23 = .ok (.aload_n 0, 1) := by decide +kernel
theorem d_X6_value_24 : decode c_X6_value 24 = .ok (.getfield 18, 3) := by decide +kernel
theorem d_X6_value_27 : decode c_X6_value 27 = .ok (.iload_n 1, 1) := by decide +kernel
theorem d_X6_value_28 : decode c_X6_value 28 = .ok (.aaload, 1) := by decide +kernel
theorem d_X6_value_29 : decode c_X6_value 29 = .ok (.invokevirtual 76, 3) := by decide +kernel
theorem d_X6_value_32 : decode c_X6_value 32 = .ok (.ifCond .ne 7, 3) := by decide +kernel
theorem d_X6_value_35 : decode c_X6_value 35 = .ok (.ldc2_w 80, 3) := by decide +kernel
theorem d_X6_value_38 : decode c_X6_value 38 = .ok (.lreturn, 1) := by decide +kernel
theorem d_X6_value_39 : decode c_X6_value 39 = .ok (.aload_n 0, 1) := by decide +kernel
theorem d_X6_value_40 : decode c_X6_value 40 = .ok (.getfield 12, 3) := by decide +kernel
theorem d_X6_value_43 : decode c_X6_value 43 = .ok (.aload_n 0, 1) := by decide +kernel
theorem d_X6_value_44 : decode c_X6_value 44 = .ok (.getfield 18, 3) := by decide +kernel
theorem d_X6_value_47 : decode c_X6_value 47 = .ok (.iload_n 1, 1) := by decide +kernel
theorem d_X6_value_48 : decode c_X6_value 48 = .ok (.aaload, 1) := by decide +kernel
theorem d_X6_value_49 : decode c_X6_value 49 = .ok (.invokevirtual 82, 3) := by decide +kernel
theorem d_X6_value_52 : decode c_X6_value 52 = .ok (.aload_n 0, 1) := by decide +kernel
theorem d_X6_value_53 : decode c_X6_value 53 = .ok (.getfield 12, 3) := by decide +kernel
theorem d_X6_value_56 : decode c_X6_value 56 = .ok (.getfield 86, 3) := by decide +kernel
theorem d_X6_value_59 : decode c_X6_value 59 = .ok (.iload_n 2, 1) := by decide +kernel
theorem d_X6_value_60 : decode c_X6_value 60 = .ok (.laload, 1) := by decide +kernel
theorem d_X6_value_61 : decode c_X6_value 61 = .ok (.lreturn, 1) := by decide +kernel
theorem d_X6_pay_0 : decode c_X6_pay 0 = .ok (.aload_n 0, 1) := by decide +kernel
theorem d_X6_pay_1 : decode c_X6_pay 1 = .ok (.getfield 26, 3) := by decide +kernel
theorem d_X6_pay_4 : decode c_X6_pay 4 = .ok (.getfield 90, 3) := by decide +kernel
theorem d_X6_pay_7 : decode c_X6_pay 7 = .ok (.bipush 16, 2) := by decide +kernel
theorem d_X6_pay_9 : decode c_X6_pay 9 = .ok (.if_icmp .ne 6, 3) := by decide +kernel
theorem d_X6_pay_12 : decode c_X6_pay 12 = .ok (.bipush (-2), 2) := by decide +kernel
theorem d_X6_pay_14 : decode c_X6_pay 14 = .ok (.ireturn, 1) := by decide +kernel
theorem d_X6_pay_15 : decode c_X6_pay 15 = .ok (.aload_n 0, 1) := by decide +kernel
theorem d_X6_pay_16 : decode c_X6_pay 16 = .ok (.getfield 26, 3) := by decide +kernel
theorem d_X6_pay_19 : decode c_X6_pay 19 = .ok (.getfield 90, 3) := by decide +kernel
theorem d_X6_pay_22 : decode c_X6_pay 22 = .ok (.istore_n 1, 1) := by decide +kernel
theorem d_X6_pay_23 : decode c_X6_pay 23 = .ok (.aload_n 0, 1) := by decide +kernel
theorem d_X6_pay_24 : decode c_X6_pay 24 = .ok (.getfield 26, 3) := by decide +kernel
theorem d_X6_pay_27 : decode c_X6_pay 27 = .ok (.dup, 1) := by decide +kernel
theorem d_X6_pay_28 : decode c_X6_pay 28 = .ok (.getfield 90, 3) := by decide +kernel
theorem d_X6_pay_31 : decode c_X6_pay 31 = .ok (.iconst 1, 1) := by decide +kernel
theorem d_X6_pay_32 : decode c_X6_pay 32 = .ok (.iadd, 1) := by decide +kernel
theorem d_X6_pay_33 : decode c_X6_pay 33 = .ok (.putfield 90, 3) := by decide +kernel
theorem d_X6_pay_36 : decode c_X6_pay 36 = .ok (.aload_n 0, 1) := by decide +kernel
theorem d_X6_pay_37 : decode c_X6_pay 37 = .ok (.iload_n 1, 1) := by decide +kernel
theorem d_X6_pay_38 : decode c_X6_pay 38 = .ok (.invokevirtual 94, 3) := by decide +kernel
theorem d_X6_pay_41 : decode c_X6_pay 41 = .ok (.iload_n 1, 1) := by decide +kernel
theorem d_X6_pay_42 : decode c_X6_pay 42 = .ok (.ireturn, 1) := by decide +kernel
theorem d_X6_back_0 : decode c_X6_back 0 = .ok (.aload_n 0, 1) := by decide +kernel
theorem d_X6_back_1 : decode c_X6_back 1 = .ok (.getfield 26, 3) := by decide +kernel
theorem d_X6_back_4 : decode c_X6_back 4 = .ok (.iload_n 1, 1) := by decide +kernel
theorem d_X6_back_5 : decode c_X6_back 5 = .ok (.invokevirtual 98, 3) := by decide +kernel
theorem d_X6_back_8 : decode c_X6_back 8 = .ok (.ifCond .ne 5, 3) := by decide +kernel
theorem d_X6_back_11 : decode c_X6_back 11 = .ok (.iconst (-1), 1) := by decide +kernel
theorem d_X6_back_12 : decode c_X6_back 12 = .ok (.ireturn, 1) := by decide +kernel
theorem d_X6_back_13 : decode c_X6_back 13 = .ok (.aload_n 0, 1) := by decide +kernel
theorem d_X6_back_14 : decode c_X6_back 14 = .ok (.iload_n 1, 1) := by decide +kernel
theorem d_X6_back_15 : decode c_X6_back 15 = .ok (.invokevirtual 101, 3) := by decide +kernel
theorem d_X6_back_18 : decode c_X6_back 18 = .ok (.aload_n 0, 1) := by decide +kernel
theorem d_X6_back_19 : decode c_X6_back 19 = .ok (.getfield 26, 3) := by decide +kernel
theorem d_X6_back_22 : decode c_X6_back 22 = .ok (.getfield 104, 3) := by decide +kernel
theorem d_X6_back_25 : decode c_X6_back 25 = .ok (.iload_n 1, 1) := by decide +kernel
theorem d_X6_back_26 : decode c_X6_back 26 = .ok (.iconst 1, 1) := by decide +kernel
theorem d_X6_back_27 : decode c_X6_back 27 = .ok (.bastore, 1) := by decide +kernel
theorem d_X6_back_28 : decode c_X6_back 28 = .ok (.iconst 0, 1) := by decide +kernel
theorem d_X6_back_29 : decode c_X6_back 29 = .ok (.ireturn, 1) := by decide +kernel
theorem d_X6_again_0 : decode c_X6_again 0 = .ok (.aload_n 0, 1) := by decide +kernel
theorem d_X6_again_1 : decode c_X6_again 1 = .ok (.getfield 26, 3) := by decide +kernel
theorem d_X6_again_4 : decode c_X6_again 4 = .ok (.iload_n 1, 1) := by decide +kernel
theorem d_X6_again_5 : decode c_X6_again 5 = .ok (.invokevirtual 98, 3) := by decide +kernel
theorem d_X6_again_8 : decode c_X6_again 8 = .ok (.ifCond .eq 16, 3) := by decide +kernel
theorem d_X6_again_11 : decode c_X6_again 11 = .ok (.iload_n 1, 1) := by decide +kernel
theorem d_X6_again_12 : decode c_X6_again 12 = .ok (.aload_n 0, 1) := by decide +kernel
theorem d_X6_again_13 : decode c_X6_again 13 = .ok (.getfield 26, 3) := by decide +kernel
theorem d_X6_again_16 : decode c_X6_again 16 = .ok (.getfield 90, 3) := by decide +kernel
theorem d_X6_again_19 : decode c_X6_again 19 = .ok (.iconst 1, 1) := by decide +kernel
theorem d_X6_again_20 : decode c_X6_again 20 = .ok (.isub, 1) := by decide +kernel
theorem d_X6_again_21 : decode c_X6_again 21 = .ok (.if_icmp .eq 5, 3) := by decide +kernel
theorem d_X6_again_24 : decode c_X6_again 24 = .ok (.iconst (-1), 1) := by decide +kernel
theorem d_X6_again_25 : decode c_X6_again 25 = .ok (.ireturn, 1) := by decide +kernel
theorem d_X6_again_26 : decode c_X6_again 26 = .ok (.aload_n 0, 1) := by decide +kernel
theorem d_X6_again_27 : decode c_X6_again 27 = .ok (.iload_n 1, 1) := by decide +kernel
theorem d_X6_again_28 : decode c_X6_again 28 = .ok (.invokevirtual 101, 3) := by decide +kernel
theorem d_X6_again_31 : decode c_X6_again 31 = .ok (.aload_n 0, 1) := by decide +kernel
theorem d_X6_again_32 : decode c_X6_again 32 = .ok (.iload_n 1, 1) := by decide +kernel
theorem d_X6_again_33 : decode c_X6_again 33 = .ok (.invokevirtual 94, 3) := by decide +kernel
theorem d_X6_again_36 : decode c_X6_again 36 = .ok (.aload_n 0, 1) := by decide +kernel
theorem d_X6_again_37 : decode c_X6_again 37 = .ok (.getfield 26, 3) := by decide +kernel
theorem d_X6_again_40 : decode c_X6_again 40 = .ok (.iload_n 1, 1) := by decide +kernel
theorem d_X6_again_41 : decode c_X6_again 41 = .ok (.invokevirtual 108, 3) := by decide +kernel
theorem d_X6_again_44 : decode c_X6_again 44 = .ok (.ireturn, 1) := by decide +kernel
theorem d_X6_slip_0 : decode c_X6_slip 0 = .ok (.aload_n 0, 1) := by decide +kernel
theorem d_X6_slip_1 : decode c_X6_slip 1 = .ok (.getfield 26, 3) := by decide +kernel
theorem d_X6_slip_4 : decode c_X6_slip 4 = .ok (.iload_n 1, 1) := by decide +kernel
theorem d_X6_slip_5 : decode c_X6_slip 5 = .ok (.invokevirtual 112, 3) := by decide +kernel
theorem d_X6_slip_8 : decode c_X6_slip 8 = .ok (.ifCond .eq 20, 3) := by decide +kernel
theorem d_X6_slip_11 : decode c_X6_slip 11 = .ok (.iload_n 2, 1) := by decide +kernel
theorem d_X6_slip_12 : decode c_X6_slip 12 = .ok (.bipush 6, 2) := by decide +kernel
theorem d_X6_slip_14 : decode c_X6_slip 14 = .ok (.invokestatic 40, 3) := by decide +kernel
theorem d_X6_slip_17 : decode c_X6_slip 17 = .ok (.ifCond .eq 11, 3) := by decide +kernel
theorem d_X6_slip_20 : decode c_X6_slip 20 = .ok (.iload_n 3, 1) := by decide +kernel
theorem d_X6_slip_21 : decode c_X6_slip 21 = .ok (.iconst 3, 1) := by decide +kernel
theorem d_X6_slip_22 : decode c_X6_slip 22 = .ok (.invokestatic 40, 3) := by decide +kernel
theorem d_X6_slip_25 : decode c_X6_slip 25 = .ok (.ifCond .ne 7, 3) := by decide +kernel
theorem d_X6_slip_28 : decode c_X6_slip 28 = .ok (.ldc2_w 80, 3) := by decide +kernel
theorem d_X6_slip_31 : decode c_X6_slip 31 = .ok (.lreturn, 1) := by decide +kernel
theorem d_X6_slip_32 : decode c_X6_slip 32 = .ok (.aload_n 0, 1) := by decide +kernel
theorem d_X6_slip_33 : decode c_X6_slip 33 = .ok (.getfield 26, 3) := by decide +kernel
theorem d_X6_slip_36 : decode c_X6_slip 36 = .ok (.iload_n 1, 1) := by decide +kernel
theorem d_X6_slip_37 : decode c_X6_slip 37 = .ok (.iload_n 2, 1) := by decide +kernel
theorem d_X6_slip_38 : decode c_X6_slip 38 = .ok (.iload_n 3, 1) := by decide +kernel
theorem d_X6_slip_39 : decode c_X6_slip 39 = .ok (.invokevirtual 113, 3) := by decide +kernel
theorem d_X6_slip_42 : decode c_X6_slip 42 = .ok (.lreturn, 1) := by decide +kernel
theorem d_X6_held_0 : decode c_X6_held 0 = .ok (.aload_n 0, 1) := by decide +kernel
theorem d_X6_held_1 : decode c_X6_held 1 = .ok (.getfield 26, 3) := by decide +kernel
theorem d_X6_held_4 : decode c_X6_held 4 = .ok (.iload_n 1, 1) := by decide +kernel
theorem d_X6_held_5 : decode c_X6_held 5 = .ok (.invokevirtual 112, 3) := by decide +kernel
theorem d_X6_held_8 : decode c_X6_held 8 = .ok (.ifCond .eq 12, 3) := by decide +kernel
theorem d_X6_held_11 : decode c_X6_held 11 = .ok (.iload_n 2, 1) := by decide +kernel
theorem d_X6_held_12 : decode c_X6_held 12 = .ok (.bipush 6, 2) := by decide +kernel
theorem d_X6_held_14 : decode c_X6_held 14 = .ok (.invokestatic 40, 3) := by decide +kernel
theorem d_X6_held_17 : decode c_X6_held 17 = .ok (.ifCond .ne 5, 3) := by decide +kernel
theorem d_X6_held_20 : decode c_X6_held 20 = .ok (.iconst (-1), 1) := by decide +kernel
theorem d_X6_held_21 : decode c_X6_held 21 = .ok (.ireturn, 1) := by decide +kernel
theorem d_X6_held_22 : decode c_X6_held 22 = .ok (.aload_n 0, 1) := by decide +kernel
theorem d_X6_held_23 : decode c_X6_held 23 = .ok (.getfield 26, 3) := by decide +kernel
theorem d_X6_held_26 : decode c_X6_held 26 = .ok (.getfield 117, 3) := by decide +kernel
theorem d_X6_held_29 : decode c_X6_held 29 = .ok (.iload_n 1, 1) := by decide +kernel
theorem d_X6_held_30 : decode c_X6_held 30 = .ok (.bipush 6, 2) := by decide +kernel
theorem d_X6_held_32 : decode c_X6_held 32 = .ok (.imul, 1) := by decide +kernel
theorem d_X6_held_33 : decode c_X6_held 33 = .ok (.iload_n 2, 1) := by decide +kernel
theorem d_X6_held_34 : decode c_X6_held 34 = .ok (.iadd, 1) := by decide +kernel
theorem d_X6_held_35 : decode c_X6_held 35 = .ok (.iaload, 1) := by decide +kernel
theorem d_X6_held_36 : decode c_X6_held 36 = .ok (.ireturn, 1) := by decide +kernel
theorem d_X6_account_0 : decode c_X6_account 0 = .ok (.iload_n 1, 1) := by decide +kernel
theorem d_X6_account_1 : decode c_X6_account 1 = .ok (.iconst 3, 1) := by decide +kernel
theorem d_X6_account_2 : decode c_X6_account 2 = .ok (.invokestatic 40, 3) := by decide +kernel
theorem d_X6_account_5 : decode c_X6_account 5 = .ok (.ifCond .ne 7, 3) := by decide +kernel
theorem d_X6_account_8 : decode c_X6_account 8 = .ok (.ldc2_w 80, 3) := by decide +kernel
theorem d_X6_account_11 : decode c_X6_account 11 = .ok (.lreturn, 1) := by decide +kernel
theorem d_X6_account_12 : decode c_X6_account 12 = .ok (.iload_n 1, 1) := by decide +kernel
theorem d_X6_account_13 : decode c_X6_account 13 = .ok (.ifCond .ne 14, 3) := by decide +kernel
theorem d_X6_account_16 : decode c_X6_account 16 = .ok (.aload_n 0, 1) := by decide +kernel
theorem d_X6_account_17 : decode c_X6_account 17 = .ok (.getfield 26, 3) := by decide +kernel
theorem d_X6_account_20 : decode c_X6_account 20 = .ok (.iconst 0, 1) := by decide +kernel
theorem d_X6_account_21 : decode c_X6_account 21 = .ok (.invokevirtual 120, 3) := by decide +kernel
theorem d_X6_account_24 : decode c_X6_account 24 = .ok (.goto 12, 3) := by decide +kernel
theorem d_X6_account_27 : decode c_X6_account 27 = .ok (.aload_n 0, 1) := by decide +kernel
theorem d_X6_account_28 : decode c_X6_account 28 = .ok (.getfield 26, 3) := by decide +kernel
theorem d_X6_account_31 : decode c_X6_account 31 = .ok (.iload_n 1, 1) := by decide +kernel
theorem d_X6_account_32 : decode c_X6_account 32 = .ok (.invokevirtual 120, 3) := by decide +kernel
theorem d_X6_account_35 : decode c_X6_account 35 = .ok (.lneg, 1) := by decide +kernel
theorem d_X6_account_36 : decode c_X6_account 36 = .ok (.lreturn, 1) := by decide +kernel
theorem d_X6_paid_0 : decode c_X6_paid 0 = .ok (.iload_n 1, 1) := by decide +kernel
theorem d_X6_paid_1 : decode c_X6_paid 1 = .ok (.bipush 6, 2) := by decide +kernel
theorem d_X6_paid_3 : decode c_X6_paid 3 = .ok (.invokestatic 40, 3) := by decide +kernel
theorem d_X6_paid_6 : decode c_X6_paid 6 = .ok (.ifCond .eq 11, 3) := by decide +kernel
theorem d_X6_paid_9 : decode c_X6_paid 9 = .ok (.iload_n 2, 1) := by decide +kernel
theorem d_X6_paid_10 : decode c_X6_paid 10 = .ok (.iconst 2, 1) := by decide +kernel
theorem d_X6_paid_11 : decode c_X6_paid 11 = .ok (.invokestatic 40, 3) := by decide +kernel
theorem d_X6_paid_14 : decode c_X6_paid 14 = .ok (.ifCond .ne 7, 3) := by decide +kernel
theorem d_X6_paid_17 : decode c_X6_paid 17 = .ok (.ldc2_w 80, 3) := by decide +kernel
theorem d_X6_paid_20 : decode c_X6_paid 20 = .ok (.lreturn, 1) := by decide +kernel
theorem d_X6_paid_21 : decode c_X6_paid 21 = .ok (.aload_n 0, 1) := by decide +kernel
theorem d_X6_paid_22 : decode c_X6_paid 22 = .ok (.getfield 18, 3) := by decide +kernel
theorem d_X6_paid_25 : decode c_X6_paid 25 = .ok (.iload_n 1, 1) := by decide +kernel
theorem d_X6_paid_26 : decode c_X6_paid 26 = .ok (.aaload, 1) := by decide +kernel
theorem d_X6_paid_27 : decode c_X6_paid 27 = .ok (.iload_n 2, 1) := by decide +kernel
theorem d_X6_paid_28 : decode c_X6_paid 28 = .ok (.invokevirtual 124, 3) := by decide +kernel
theorem d_X6_paid_31 : decode c_X6_paid 31 = .ok (.lreturn, 1) := by decide +kernel
theorem d_X6_count_0 : decode c_X6_count 0 = .ok (.iload_n 1, 1) := by decide +kernel
theorem d_X6_count_1 : decode c_X6_count 1 = .ok (.tableswitch 121 0 7 #[47, 58, 66, 74, 82, 87, 100, 113], 47) := by decide +kernel
theorem d_X6_count_48 : decode c_X6_count 48 = .ok (.aload_n 0, 1) := by decide +kernel
theorem d_X6_count_49 : decode c_X6_count 49 = .ok (.getfield 12, 3) := by decide +kernel
theorem d_X6_count_52 : decode c_X6_count 52 = .ok (.getfield 30, 3) := by decide +kernel
theorem d_X6_count_55 : decode c_X6_count 55 = .ok (.getfield 127, 3) := by decide +kernel
theorem d_X6_count_58 : decode c_X6_count 58 = .ok (.ireturn, 1) := by decide +kernel
theorem d_X6_count_59 : decode c_X6_count 59 = .ok (.aload_n 0, 1) := by decide +kernel
theorem d_X6_count_60 : decode c_X6_count 60 = .ok (.getfield 26, 3) := by decide +kernel
theorem d_X6_count_63 : decode c_X6_count 63 = .ok (.getfield 90, 3) := by decide +kernel
theorem d_X6_count_66 : decode c_X6_count 66 = .ok (.ireturn, 1) := by decide +kernel
theorem d_X6_count_67 : decode c_X6_count 67 = .ok (.aload_n 0, 1) := by decide +kernel
theorem d_X6_count_68 : decode c_X6_count 68 = .ok (.getfield 26, 3) := by decide +kernel
theorem d_X6_count_71 : decode c_X6_count 71 = .ok (.invokevirtual 128, 3) := by decide +kernel
theorem d_X6_count_74 : decode c_X6_count 74 = .ok (.ireturn, 1) := by decide +kernel
theorem d_X6_count_75 : decode c_X6_count 75 = .ok (.aload_n 0, 1) := by decide +kernel
theorem d_X6_count_76 : decode c_X6_count 76 = .ok (.getfield 26, 3) := by decide +kernel
theorem d_X6_count_79 : decode c_X6_count 79 = .ok (.invokevirtual 131, 3) := by decide +kernel
theorem d_X6_count_82 : decode c_X6_count 82 = .ok (.ireturn, 1) := by decide +kernel
theorem d_X6_count_83 : decode c_X6_count 83 = .ok (.aload_n 0, 1) := by decide +kernel
theorem d_X6_count_84 : decode c_X6_count 84 = .ok (.invokevirtual 134, 3) := by decide +kernel
theorem d_X6_count_87 : decode c_X6_count 87 = .ok (.ireturn, 1) := by decide +kernel
theorem d_X6_count_88 : decode c_X6_count 88 = .ok (.aload_n 0, 1) := by decide +kernel
theorem d_X6_count_89 : decode c_X6_count 89 = .ok (.getfield 12, 3) := by decide +kernel
theorem d_X6_count_92 : decode c_X6_count 92 = .ok (.getfield 55, 3) := by decide +kernel
theorem d_X6_count_95 : decode c_X6_count 95 = .ok (.iconst 0, 1) := by decide +kernel
theorem d_X6_count_96 : decode c_X6_count 96 = .ok (.aaload, 1) := by decide +kernel
theorem d_X6_count_97 : decode c_X6_count 97 = .ok (.getfield 137, 3) := by decide +kernel
theorem d_X6_count_100 : decode c_X6_count 100 = .ok (.ireturn, 1) := by decide +kernel
theorem d_X6_count_101 : decode c_X6_count 101 = .ok (.aload_n 0, 1) := by decide +kernel
theorem d_X6_count_102 : decode c_X6_count 102 = .ok (.getfield 12, 3) := by decide +kernel
theorem d_X6_count_105 : decode c_X6_count 105 = .ok (.getfield 55, 3) := by decide +kernel
theorem d_X6_count_108 : decode c_X6_count 108 = .ok (.iconst 1, 1) := by decide +kernel
theorem d_X6_count_109 : decode c_X6_count 109 = .ok (.aaload, 1) := by decide +kernel
theorem d_X6_count_110 : decode c_X6_count 110 = .ok (.getfield 137, 3) := by decide +kernel
theorem d_X6_count_113 : decode c_X6_count 113 = .ok (.ireturn, 1) := by decide +kernel
theorem d_X6_count_114 : decode c_X6_count 114 = .ok (.aload_n 0, 1) := by decide +kernel
theorem d_X6_count_115 : decode c_X6_count 115 = .ok (.getfield 12, 3) := by decide +kernel
theorem d_X6_count_118 : decode c_X6_count 118 = .ok (.invokevirtual 140, 3) := by decide +kernel
theorem d_X6_count_121 : decode c_X6_count 121 = .ok (.ireturn, 1) := by decide +kernel
theorem d_X6_count_122 : decode c_X6_count 122 = .ok (.iconst (-1), 1) := by decide +kernel
theorem d_X6_count_123 : decode c_X6_count 123 = .ok (.ireturn, 1) := by decide +kernel
theorem d_X6_within_0 : decode c_X6_within 0 = .ok (.iload_n 0, 1) := by decide +kernel
theorem d_X6_within_1 : decode c_X6_within 1 = .ok (.ifCond .lt 12, 3) := by decide +kernel
theorem d_X6_within_4 : decode c_X6_within 4 = .ok (.iload_n 0, 1) := by decide +kernel
theorem d_X6_within_5 : decode c_X6_within 5 = .ok (.iload_n 1, 1) := by decide +kernel
theorem d_X6_within_6 : decode c_X6_within 6 = .ok (.if_icmp .ge 7, 3) := by decide +kernel
theorem d_X6_within_9 : decode c_X6_within 9 = .ok (.iconst 1, 1) := by decide +kernel
theorem d_X6_within_10 : decode c_X6_within 10 = .ok (.goto 4, 3) := by decide +kernel
theorem d_X6_within_13 : decode c_X6_within 13 = .ok (.iconst 0, 1) := by decide +kernel
theorem d_X6_within_14 : decode c_X6_within 14 = .ok (.ireturn, 1) := by decide +kernel
theorem d_X6_howManyActive_0 : decode c_X6_howManyActive 0 = .ok (.iconst 0, 1) := by decide +kernel
theorem d_X6_howManyActive_1 : decode c_X6_howManyActive 1 = .ok (.istore_n 1, 1) := by decide +kernel
theorem d_X6_howManyActive_2 : decode c_X6_howManyActive 2 = .ok (.iconst 0, 1) := by decide +kernel
theorem d_X6_howManyActive_3 : decode c_X6_howManyActive 3 = .ok (.istore_n 2, 1) := by decide +kernel
theorem d_X6_howManyActive_4 : decode c_X6_howManyActive 4 = .ok (.iload_n 2, 1) := by decide +kernel
theorem d_X6_howManyActive_5 : decode c_X6_howManyActive 5 = .ok (.bipush 6, 2) := by decide +kernel
theorem d_X6_howManyActive_7 : decode c_X6_howManyActive 7 = .ok (.if_icmp .ge 24, 3) := by decide +kernel
theorem d_X6_howManyActive_10 : decode c_X6_howManyActive 10 = .ok (.aload_n 0, 1) := by decide +kernel
theorem d_X6_howManyActive_11 : decode c_X6_howManyActive 11 = .ok (.getfield 18, 3) := by decide +kernel
theorem d_X6_howManyActive_14 : decode c_X6_howManyActive 14 = .ok (.iload_n 2, 1) := by decide +kernel
theorem d_X6_howManyActive_15 : decode c_X6_howManyActive 15 = .ok (.aaload, 1) := by decide +kernel
theorem d_X6_howManyActive_16 : decode c_X6_howManyActive 16 = .ok (.getfield 72, 3) := by decide +kernel
theorem d_X6_howManyActive_19 : decode c_X6_howManyActive 19 = .ok (.ifCond .eq 6, 3) := by decide +kernel
theorem d_X6_howManyActive_22 : decode c_X6_howManyActive 22 = .ok (.iinc 1 1, 3) := by decide +kernel
theorem d_X6_howManyActive_25 : decode c_X6_howManyActive 25 = .ok (.iinc 2 1, 3) := by decide +kernel
theorem d_X6_howManyActive_28 : decode c_X6_howManyActive 28 = .ok (.goto (-24), 3) := by decide +kernel
theorem d_X6_howManyActive_31 : decode c_X6_howManyActive 31 = .ok (.iload_n 1, 1) := by decide +kernel
theorem d_X6_howManyActive_32 : decode c_X6_howManyActive 32 = .ok (.ireturn, 1) := by decide +kernel
theorem d_X6_payAll_0 : decode c_X6_payAll 0 = .ok (.iconst 0, 1) := by decide +kernel
theorem d_X6_payAll_1 : decode c_X6_payAll 1 = .ok (.istore_n 2, 1) := by decide +kernel
theorem d_X6_payAll_2 : decode c_X6_payAll 2 = .ok (.iload_n 2, 1) := by decide +kernel
theorem d_X6_payAll_3 : decode c_X6_payAll 3 = .ok (.bipush 6, 2) := by decide +kernel
theorem d_X6_payAll_5 : decode c_X6_payAll 5 = .ok (.if_icmp .ge 36, 3) := by decide +kernel
theorem d_X6_payAll_8 : decode c_X6_payAll 8 = .ok (.aload_n 0, 1) := by decide +kernel
theorem d_X6_payAll_9 : decode c_X6_payAll 9 = .ok (.getfield 26, 3) := by decide +kernel
theorem d_X6_payAll_12 : decode c_X6_payAll 12 = .ok (.iload_n 1, 1) := by decide +kernel
theorem d_X6_payAll_13 : decode c_X6_payAll 13 = .ok (.iload_n 2, 1) := by decide +kernel
theorem d_X6_payAll_14 : decode c_X6_payAll 14 = .ok (.invokevirtual 143, 3) := by decide +kernel
theorem d_X6_payAll_17 : decode c_X6_payAll 17 = .ok (.aload_n 0, 1) := by decide +kernel
theorem d_X6_payAll_18 : decode c_X6_payAll 18 = .ok (.getfield 18, 3) := by decide +kernel
theorem d_X6_payAll_21 : decode c_X6_payAll 21 = .ok (.iload_n 2, 1) := by decide +kernel
theorem d_X6_payAll_22 : decode c_X6_payAll 22 = .ok (.aaload, 1) := by decide +kernel
theorem d_X6_payAll_23 : decode c_X6_payAll 23 = .ok (.getfield 72, 3) := by decide +kernel
theorem d_X6_payAll_26 : decode c_X6_payAll 26 = .ok (.ifCond .eq 9, 3) := by decide +kernel
theorem d_X6_payAll_29 : decode c_X6_payAll 29 = .ok (.aload_n 0, 1) := by decide +kernel
theorem d_X6_payAll_30 : decode c_X6_payAll 30 = .ok (.iload_n 1, 1) := by decide +kernel
theorem d_X6_payAll_31 : decode c_X6_payAll 31 = .ok (.iload_n 2, 1) := by decide +kernel
theorem d_X6_payAll_32 : decode c_X6_payAll 32 = .ok (.invokevirtual 147, 3) := by decide +kernel
theorem d_X6_payAll_35 : decode c_X6_payAll 35 = .ok (.iinc 2 1, 3) := by decide +kernel
theorem d_X6_payAll_38 : decode c_X6_payAll 38 = .ok (.goto (-36), 3) := by decide +kernel
theorem d_X6_payAll_41 : decode c_X6_payAll 41 = .ok (.return_, 1) := by decide +kernel
theorem d_X6_payOne_0 : decode c_X6_payOne 0 = .ok (.aload_n 0, 1) := by decide +kernel
theorem d_X6_payOne_1 : decode c_X6_payOne 1 = .ok (.getfield 18, 3) := by decide +kernel
theorem d_X6_payOne_4 : decode c_X6_payOne 4 = .ok (.iload_n 2, 1) := by decide +kernel
theorem d_X6_payOne_5 : decode c_X6_payOne 5 = .ok (.aaload, 1) := by decide +kernel
theorem d_X6_payOne_6 : decode c_X6_payOne 6 = .ok (.astore_n 3, 1) := by decide +kernel
theorem d_X6_payOne_7 : decode c_X6_payOne 7 = .ok (.aload_n 3, 1) := by decide +kernel
theorem d_X6_payOne_8 : decode c_X6_payOne 8 = .ok (.invokevirtual 76, 3) := by decide +kernel
theorem d_X6_payOne_11 : decode c_X6_payOne 11 = .ok (.ifCond .ne 15, 3) := by decide +kernel
theorem d_X6_payOne_14 : decode c_X6_payOne 14 = .ok (.aload_n 0, 1) := by decide +kernel
theorem d_X6_payOne_15 : decode c_X6_payOne 15 = .ok (.getfield 26, 3) := by decide +kernel
theorem d_X6_payOne_18 : decode c_X6_payOne 18 = .ok (.iload_n 1, 1) := by decide +kernel
theorem d_X6_payOne_19 : decode c_X6_payOne 19 = .ok (.iload_n 2, 1) := by decide +kernel
theorem d_X6_payOne_20 : decode c_X6_payOne 20 = .ok (.bipush 6, 2) := by decide +kernel
theorem d_X6_payOne_22 : decode c_X6_payOne 22 = .ok (.invokevirtual 150, 3) := by decide +kernel
theorem d_X6_payOne_25 : decode c_X6_payOne 25 = .ok (.return_, 1) := by decide +kernel
theorem d_X6_payOne_26 : decode c_X6_payOne 26 = .ok (.aload_n 0, 1) := by decide +kernel
theorem d_X6_payOne_27 : decode c_X6_payOne 27 = .ok (.getfield 12, 3) := by decide +kernel
theorem d_X6_payOne_30 : decode c_X6_payOne 30 = .ok (.aload_n 3, 1) := by decide +kernel
theorem d_X6_payOne_31 : decode c_X6_payOne 31 = .ok (.invokevirtual 82, 3) := by decide +kernel
theorem d_X6_payOne_34 : decode c_X6_payOne 34 = .ok (.aload_n 0, 1) := by decide +kernel
theorem d_X6_payOne_35 : decode c_X6_payOne 35 = .ok (.getfield 12, 3) := by decide +kernel
theorem d_X6_payOne_38 : decode c_X6_payOne 38 = .ok (.iconst 0, 1) := by decide +kernel
theorem d_X6_payOne_39 : decode c_X6_payOne 39 = .ok (.invokevirtual 154, 3) := by decide +kernel
theorem d_X6_payOne_42 : decode c_X6_payOne 42 = .ok (.lstore 4, 2) := by decide +kernel
theorem d_X6_payOne_44 : decode c_X6_payOne 44 = .ok (.aload_n 0, 1) := by decide +kernel
theorem d_X6_payOne_45 : decode c_X6_payOne 45 = .ok (.getfield 12, 3) := by decide +kernel
theorem d_X6_payOne_48 : decode c_X6_payOne 48 = .ok (.iconst 1, 1) := by decide +kernel
theorem d_X6_payOne_49 : decode c_X6_payOne 49 = .ok (.invokevirtual 154, 3) := by decide +kernel
theorem d_X6_payOne_52 : decode c_X6_payOne 52 = .ok (.lstore 6, 2) := by decide +kernel
theorem d_X6_payOne_54 : decode c_X6_payOne 54 = .ok (.aload_n 0, 1) := by decide +kernel
theorem d_X6_payOne_55 : decode c_X6_payOne 55 = .ok (.getfield 12, 3) := by decide +kernel
theorem d_X6_payOne_58 : decode c_X6_payOne 58 = .ok (.iconst 2, 1) := by decide +kernel
theorem d_X6_payOne_59 : decode c_X6_payOne 59 = .ok (.invokevirtual 154, 3) := by decide +kernel
theorem d_X6_payOne_62 : decode c_X6_payOne 62 = .ok (.lstore 8, 2) := by decide +kernel
theorem d_X6_payOne_64 : decode c_X6_payOne 64 = .ok (.aload_n 3, 1) := by decide +kernel
theorem d_X6_payOne_65 : decode c_X6_payOne 65 = .ok (.lload 4, 2) := by decide +kernel
theorem d_X6_payOne_67 : decode c_X6_payOne 67 = .ok (.lload 6, 2) := by decide +kernel
theorem d_X6_payOne_69 : decode c_X6_payOne 69 = .ok (.lload 8, 2) := by decide +kernel
theorem d_X6_payOne_71 : decode c_X6_payOne 71 = .ok (.invokevirtual 157, 3) := by decide +kernel
theorem d_X6_payOne_74 : decode c_X6_payOne 74 = .ok (.istore 10, 2) := by decide +kernel
theorem d_X6_payOne_76 : decode c_X6_payOne 76 = .ok (.iload 10, 2) := by decide +kernel
theorem d_X6_payOne_78 : decode c_X6_payOne 78 = .ok (.ifCond .eq 15, 3) := by decide +kernel
theorem d_X6_payOne_81 : decode c_X6_payOne 81 = .ok (.aload_n 0, 1) := by decide +kernel
theorem d_X6_payOne_82 : decode c_X6_payOne 82 = .ok (.getfield 26, 3) := by decide +kernel
theorem d_X6_payOne_85 : decode c_X6_payOne 85 = .ok (.iload_n 1, 1) := by decide +kernel
theorem d_X6_payOne_86 : decode c_X6_payOne 86 = .ok (.iload_n 2, 1) := by decide +kernel
theorem d_X6_payOne_87 : decode c_X6_payOne 87 = .ok (.iload 10, 2) := by decide +kernel
theorem d_X6_payOne_89 : decode c_X6_payOne 89 = .ok (.invokevirtual 150, 3) := by decide +kernel
theorem d_X6_payOne_92 : decode c_X6_payOne 92 = .ok (.return_, 1) := by decide +kernel
theorem d_X6_payOne_93 : decode c_X6_payOne 93 = .ok (.aload_n 0, 1) := by decide +kernel
theorem d_X6_payOne_94 : decode c_X6_payOne 94 = .ok (.getfield 26, 3) := by decide +kernel
theorem d_X6_payOne_97 : decode c_X6_payOne 97 = .ok (.iload_n 1, 1) := by decide +kernel
theorem d_X6_payOne_98 : decode c_X6_payOne 98 = .ok (.iload_n 2, 1) := by decide +kernel
theorem d_X6_payOne_99 : decode c_X6_payOne 99 = .ok (.lload 4, 2) := by decide +kernel
theorem d_X6_payOne_101 : decode c_X6_payOne 101 = .ok (.lload 6, 2) := by decide +kernel
theorem d_X6_payOne_103 : decode c_X6_payOne 103 = .ok (.lload 8, 2) := by decide +kernel
theorem d_X6_payOne_105 : decode c_X6_payOne 105 = .ok (.invokevirtual 161, 3) := by decide +kernel
theorem d_X6_payOne_108 : decode c_X6_payOne 108 = .ok (.aload_n 3, 1) := by decide +kernel
theorem d_X6_payOne_109 : decode c_X6_payOne 109 = .ok (.lload 4, 2) := by decide +kernel
theorem d_X6_payOne_111 : decode c_X6_payOne 111 = .ok (.lload 6, 2) := by decide +kernel
theorem d_X6_payOne_113 : decode c_X6_payOne 113 = .ok (.invokevirtual 165, 3) := by decide +kernel
theorem d_X6_payOne_116 : decode c_X6_payOne 116 = .ok (.return_, 1) := by decide +kernel
theorem d_X6_unpayAll_0 : decode c_X6_unpayAll 0 = .ok (.iconst 0, 1) := by decide +kernel
theorem d_X6_unpayAll_1 : decode c_X6_unpayAll 1 = .ok (.istore_n 2, 1) := by decide +kernel
theorem d_X6_unpayAll_2 : decode c_X6_unpayAll 2 = .ok (.iload_n 2, 1) := by decide +kernel
theorem d_X6_unpayAll_3 : decode c_X6_unpayAll 3 = .ok (.bipush 6, 2) := by decide +kernel
theorem d_X6_unpayAll_5 : decode c_X6_unpayAll 5 = .ok (.if_icmp .ge 52, 3) := by decide +kernel
theorem d_X6_unpayAll_8 : decode c_X6_unpayAll 8 = .ok (.aload_n 0, 1) := by decide +kernel
theorem d_X6_unpayAll_9 : decode c_X6_unpayAll 9 = .ok (.getfield 26, 3) := by decide +kernel
theorem d_X6_unpayAll_12 : decode c_X6_unpayAll 12 = .ok (.iload_n 1, 1) := by decide +kernel
theorem d_X6_unpayAll_13 : decode c_X6_unpayAll 13 = .ok (.iload_n 2, 1) := by decide +kernel
theorem d_X6_unpayAll_14 : decode c_X6_unpayAll 14 = .ok (.invokevirtual 169, 3) := by decide +kernel
theorem d_X6_unpayAll_17 : decode c_X6_unpayAll 17 = .ok (.ifCond .eq 34, 3) := by decide +kernel
theorem d_X6_unpayAll_20 : decode c_X6_unpayAll 20 = .ok (.aload_n 0, 1) := by decide +kernel
theorem d_X6_unpayAll_21 : decode c_X6_unpayAll 21 = .ok (.getfield 18, 3) := by decide +kernel
theorem d_X6_unpayAll_24 : decode c_X6_unpayAll 24 = .ok (.iload_n 2, 1) := by decide +kernel
theorem d_X6_unpayAll_25 : decode c_X6_unpayAll 25 = .ok (.aaload, 1) := by decide +kernel
theorem d_X6_unpayAll_26 : decode c_X6_unpayAll 26 = .ok (.aload_n 0, 1) := by decide +kernel
theorem d_X6_unpayAll_27 : decode c_X6_unpayAll 27 = .ok (.getfield 26, 3) := by decide +kernel
theorem d_X6_unpayAll_30 : decode c_X6_unpayAll 30 = .ok (.iload_n 1, 1) := by decide +kernel
theorem d_X6_unpayAll_31 : decode c_X6_unpayAll 31 = .ok (.iload_n 2, 1) := by decide +kernel
theorem d_X6_unpayAll_32 : decode c_X6_unpayAll 32 = .ok (.iconst 0, 1) := by decide +kernel
theorem d_X6_unpayAll_33 : decode c_X6_unpayAll 33 = .ok (.invokevirtual 113, 3) := by decide +kernel
theorem d_X6_unpayAll_36 : decode c_X6_unpayAll 36 = .ok (.lneg, 1) := by decide +kernel
theorem d_X6_unpayAll_37 : decode c_X6_unpayAll 37 = .ok (.aload_n 0, 1) := by decide +kernel
theorem d_X6_unpayAll_38 : decode c_X6_unpayAll 38 = .ok (.getfield 26, 3) := by decide +kernel
theorem d_X6_unpayAll_41 : decode c_X6_unpayAll 41 = .ok (.iload_n 1, 1) := by decide +kernel
theorem d_X6_unpayAll_42 : decode c_X6_unpayAll 42 = .ok (.iload_n 2, 1) := by decide +kernel
theorem d_X6_unpayAll_43 : decode c_X6_unpayAll 43 = .ok (.iconst 1, 1) := by decide +kernel
theorem d_X6_unpayAll_44 : decode c_X6_unpayAll 44 = .ok (.invokevirtual 113, 3) := by decide +kernel
theorem d_X6_unpayAll_47 : decode c_X6_unpayAll 47 = .ok (.lneg, 1) := by decide +kernel
theorem d_X6_unpayAll_48 : decode c_X6_unpayAll 48 = .ok (.invokevirtual 165, 3) := by decide +kernel
theorem d_X6_unpayAll_51 : decode c_X6_unpayAll 51 = .ok (.iinc 2 1, 3) := by decide +kernel
theorem d_X6_unpayAll_54 : decode c_X6_unpayAll 54 = .ok (.goto (-52), 3) := by decide +kernel
theorem d_X6_unpayAll_57 : decode c_X6_unpayAll 57 = .ok (.return_, 1) := by decide +kernel
theorem d_X7_init_0 : decode c_X7_init 0 = .ok (.aload_n 0, 1) := by decide +kernel
theorem d_X7_init_1 : decode c_X7_init 1 = .ok (.invokespecial 1, 3) := by decide +kernel
theorem d_X7_init_4 : decode c_X7_init 4 = .ok (.aload_n 0, 1) := by decide +kernel
theorem d_X7_init_5 : decode c_X7_init 5 = .ok (.iconst 0, 1) := by decide +kernel
theorem d_X7_init_6 : decode c_X7_init 6 = .ok (.putfield 7, 3) := by decide +kernel
theorem d_X7_init_9 : decode c_X7_init 9 = .ok (.aload_n 0, 1) := by decide +kernel
theorem d_X7_init_10 : decode c_X7_init 10 = .ok (.iconst 0, 1) := by decide +kernel
theorem d_X7_init_11 : decode c_X7_init 11 = .ok (.putfield 13, 3) := by decide +kernel
theorem d_X7_init_14 : decode c_X7_init 14 = .ok (.aload_n 0, 1) := by decide +kernel
theorem d_X7_init_15 : decode c_X7_init 15 = .ok (.bipush 70, 2) := by decide +kernel
theorem d_X7_init_17 : decode c_X7_init 17 = .ok (.newarray .int, 2) := by decide +kernel
theorem d_X7_init_19 : decode c_X7_init 19 = .ok (.putfield 16, 3) := by decide +kernel
theorem d_X7_init_22 : decode c_X7_init 22 = .ok (.aload_n 0, 1) := by decide +kernel
theorem d_X7_init_23 : decode c_X7_init 23 = .ok (.bipush 70, 2) := by decide +kernel
theorem d_X7_init_25 : decode c_X7_init 25 = .ok (.newarray .int, 2) := by decide +kernel
theorem d_X7_init_27 : decode c_X7_init 27 = .ok (.putfield 20, 3) := by decide +kernel
theorem d_X7_init_30 : decode c_X7_init 30 = .ok (.aload_n 0, 1) := by decide +kernel
theorem d_X7_init_31 : decode c_X7_init 31 = .ok (.bipush 70, 2) := by decide +kernel
theorem d_X7_init_33 : decode c_X7_init 33 = .ok (.newarray .int, 2) := by decide +kernel
theorem d_X7_init_35 : decode c_X7_init 35 = .ok (.putfield 23, 3) := by decide +kernel
theorem d_X7_init_38 : decode c_X7_init 38 = .ok (.aload_n 0, 1) := by decide +kernel
theorem d_X7_init_39 : decode c_X7_init 39 = .ok (.bipush 70, 2) := by decide +kernel
theorem d_X7_init_41 : decode c_X7_init 41 = .ok (.newarray .int, 2) := by decide +kernel
theorem d_X7_init_43 : decode c_X7_init 43 = .ok (.putfield 26, 3) := by decide +kernel
theorem d_X7_init_46 : decode c_X7_init 46 = .ok (.aload_n 0, 1) := by decide +kernel
theorem d_X7_init_47 : decode c_X7_init 47 = .ok (.bipush 70, 2) := by decide +kernel
theorem d_X7_init_49 : decode c_X7_init 49 = .ok (.newarray .int, 2) := by decide +kernel
theorem d_X7_init_51 : decode c_X7_init 51 = .ok (.putfield 29, 3) := by decide +kernel
theorem d_X7_init_54 : decode c_X7_init 54 = .ok (.aload_n 0, 1) := by decide +kernel
theorem d_X7_init_55 : decode c_X7_init 55 = .ok (.bipush 70, 2) := by decide +kernel
theorem d_X7_init_57 : decode c_X7_init 57 = .ok (.newarray .int, 2) := by decide +kernel
theorem d_X7_init_59 : decode c_X7_init 59 = .ok (.putfield 32, 3) := by decide +kernel
theorem d_X7_init_62 : decode c_X7_init 62 = .ok (.aload_n 0, 1) := by decide +kernel
theorem d_X7_init_63 : decode c_X7_init 63 = .ok (.bipush 8, 2) := by decide +kernel
theorem d_X7_init_65 : decode c_X7_init 65 = .ok (.newarray .int, 2) := by decide +kernel
theorem d_X7_init_67 : decode c_X7_init 67 = .ok (.putfield 35, 3) := by decide +kernel
theorem d_X7_init_70 : decode c_X7_init 70 = .ok (.aload_n 0, 1) := by decide +kernel
theorem d_X7_init_71 : decode c_X7_init 71 = .ok (.iconst 2, 1) := by decide +kernel
theorem d_X7_init_72 : decode c_X7_init 72 = .ok (.newarray .int, 2) := by decide +kernel
theorem d_X7_init_74 : decode c_X7_init 74 = .ok (.putfield 38, 3) := by decide +kernel
theorem d_X7_init_77 : decode c_X7_init 77 = .ok (.aload_n 0, 1) := by decide +kernel
theorem d_X7_init_78 : decode c_X7_init 78 = .ok (.bipush 10, 2) := by decide +kernel
theorem d_X7_init_80 : decode c_X7_init 80 = .ok (.newarray .int, 2) := by decide +kernel
theorem d_X7_init_82 : decode c_X7_init 82 = .ok (.putfield 41, 3) := by decide +kernel
theorem d_X7_init_85 : decode c_X7_init 85 = .ok (.aload_n 0, 1) := by decide +kernel
theorem d_X7_init_86 : decode c_X7_init 86 = .ok (.bipush 10, 2) := by decide +kernel
theorem d_X7_init_88 : decode c_X7_init 88 = .ok (.newarray .int, 2) := by decide +kernel
theorem d_X7_init_90 : decode c_X7_init 90 = .ok (.putfield 44, 3) := by decide +kernel
theorem d_X7_init_93 : decode c_X7_init 93 = .ok (.aload_n 0, 1) := by decide +kernel
theorem d_X7_init_94 : decode c_X7_init 94 = .ok (.bipush 48, 2) := by decide +kernel
theorem d_X7_init_96 : decode c_X7_init 96 = .ok (.newarray .int, 2) := by decide +kernel
theorem d_X7_init_98 : decode c_X7_init 98 = .ok (.putfield 47, 3) := by decide +kernel
theorem d_X7_init_101 : decode c_X7_init 101 = .ok (.aload_n 0, 1) := by decide +kernel
theorem d_X7_init_102 : decode c_X7_init 102 = .ok (.bipush 6, 2) := by decide +kernel
theorem d_X7_init_104 : decode c_X7_init 104 = .ok (.newarray .boolean, 2) := by decide +kernel
theorem d_X7_init_106 : decode c_X7_init 106 = .ok (.putfield 50, 3) := by decide +kernel
theorem d_X7_init_109 : decode c_X7_init 109 = .ok (.aload_n 0, 1) := by decide +kernel
theorem d_X7_init_110 : decode c_X7_init 110 = .ok (.bipush 16, 2) := by decide +kernel
theorem d_X7_init_112 : decode c_X7_init 112 = .ok (.newarray .boolean, 2) := by decide +kernel
theorem d_X7_init_114 : decode c_X7_init 114 = .ok (.putfield 54, 3) := by decide +kernel
theorem d_X7_init_117 : decode c_X7_init 117 = .ok (.aload_n 0, 1) := by decide +kernel
theorem d_X7_init_118 : decode c_X7_init 118 = .ok (.bipush 96, 2) := by decide +kernel
theorem d_X7_init_120 : decode c_X7_init 120 = .ok (.newarray .boolean, 2) := by decide +kernel
theorem d_X7_init_122 : decode c_X7_init 122 = .ok (.putfield 57, 3) := by decide +kernel
theorem d_X7_init_125 : decode c_X7_init 125 = .ok (.aload_n 0, 1) := by decide +kernel
theorem d_X7_init_126 : decode c_X7_init 126 = .ok (.bipush 96, 2) := by decide +kernel
theorem d_X7_init_128 : decode c_X7_init 128 = .ok (.newarray .int, 2) := by decide +kernel
theorem d_X7_init_130 : decode c_X7_init 130 = .ok (.putfield 60, 3) := by decide +kernel
theorem d_X7_init_133 : decode c_X7_init 133 = .ok (.aload_n 0, 1) := by decide +kernel
theorem d_X7_init_134 : decode c_X7_init 134 = .ok (.sipush 288, 3) := by decide +kernel
theorem d_X7_init_137 : decode c_X7_init 137 = .ok (.newarray .long, 2) := by decide +kernel
theorem d_X7_init_139 : decode c_X7_init 139 = .ok (.putfield 63, 3) := by decide +kernel
theorem d_X7_init_142 : decode c_X7_init 142 = .ok (.aload_n 0, 1) := by decide +kernel
theorem d_X7_init_143 : decode c_X7_init 143 = .ok (.bipush 12, 2) := by decide +kernel
theorem d_X7_init_145 : decode c_X7_init 145 = .ok (.newarray .long, 2) := by decide +kernel
theorem d_X7_init_147 : decode c_X7_init 147 = .ok (.putfield 67, 3) := by decide +kernel
theorem d_X7_init_150 : decode c_X7_init 150 = .ok (.aload_n 0, 1) := by decide +kernel
theorem d_X7_init_151 : decode c_X7_init 151 = .ok (.bipush 70, 2) := by decide +kernel
theorem d_X7_init_153 : decode c_X7_init 153 = .ok (.newarray .long, 2) := by decide +kernel
theorem d_X7_init_155 : decode c_X7_init 155 = .ok (.putfield 70, 3) := by decide +kernel
theorem d_X7_init_158 : decode c_X7_init 158 = .ok (.aload_n 0, 1) := by decide +kernel
theorem d_X7_init_159 : decode c_X7_init 159 = .ok (.bipush 8, 2) := by decide +kernel
theorem d_X7_init_161 : decode c_X7_init 161 = .ok (.newarray .long, 2) := by decide +kernel
theorem d_X7_init_163 : decode c_X7_init 163 = .ok (.putfield 73, 3) := by decide +kernel
theorem d_X7_init_166 : decode c_X7_init 166 = .ok (.iconst 0, 1) := by decide +kernel
theorem d_X7_init_167 : decode c_X7_init 167 = .ok (.istore_n 1, 1) := by decide +kernel
theorem d_X7_init_168 : decode c_X7_init 168 = .ok (.iload_n 1, 1) := by decide +kernel
theorem d_X7_init_169 : decode c_X7_init 169 = .ok (.bipush 8, 2) := by decide +kernel
theorem d_X7_init_171 : decode c_X7_init 171 = .ok (.if_icmp .ge 16, 3) := by decide +kernel
theorem d_X7_init_174 : decode c_X7_init 174 = .ok (.aload_n 0, 1) := by decide +kernel
theorem d_X7_init_175 : decode c_X7_init 175 = .ok (.getfield 35, 3) := by decide +kernel
theorem d_X7_init_178 : decode c_X7_init 178 = .ok (.iload_n 1, 1) := by decide +kernel
theorem d_X7_init_179 : decode c_X7_init 179 = .ok (.iconst (-1), 1) := by decide +kernel
theorem d_X7_init_180 : decode c_X7_init 180 = .ok (.iastore, 1) := by decide +kernel
theorem d_X7_init_181 : decode c_X7_init 181 = .ok (.iinc 1 1, 3) := by decide +kernel
theorem d_X7_init_184 : decode c_X7_init 184 = .ok (.goto (-16), 3) := by decide +kernel
theorem d_X7_init_187 : decode c_X7_init 187 = .ok (.return_, 1) := by decide +kernel
theorem d_X7_out_0 : decode c_X7_out 0 = .ok (.iload_n 1, 1) := by decide +kernel
theorem d_X7_out_1 : decode c_X7_out 1 = .ok (.iload_n 2, 1) := by decide +kernel
theorem d_X7_out_2 : decode c_X7_out 2 = .ok (.if_icmp .lt 8, 3) := by decide +kernel
theorem d_X7_out_5 : decode c_X7_out 5 = .ok (.iload_n 1, 1) := by decide +kernel
theorem d_X7_out_6 : decode c_X7_out 6 = .ok (.iload_n 3, 1) := by decide +kernel
theorem d_X7_out_7 : decode c_X7_out 7 = .ok (.if_icmp .le 7, 3) := by decide +kernel
theorem d_X7_out_10 : decode c_X7_out 10 = .ok (.iconst 1, 1) := by decide +kernel
theorem d_X7_out_11 : decode c_X7_out 11 = .ok (.goto 4, 3) := by decide +kernel
theorem d_X7_out_14 : decode c_X7_out 14 = .ok (.iconst 0, 1) := by decide +kernel
theorem d_X7_out_15 : decode c_X7_out 15 = .ok (.ireturn, 1) := by decide +kernel
theorem d_X7_isNode_0 : decode c_X7_isNode 0 = .ok (.iload_n 1, 1) := by decide +kernel
theorem d_X7_isNode_1 : decode c_X7_isNode 1 = .ok (.ifCond .lt 15, 3) := by decide +kernel
theorem d_X7_isNode_4 : decode c_X7_isNode 4 = .ok (.iload_n 1, 1) := by decide +kernel
theorem d_X7_isNode_5 : decode c_X7_isNode 5 = .ok (.aload_n 0, 1) := by decide +kernel
theorem d_X7_isNode_6 : decode c_X7_isNode 6 = .ok (.getfield 7, 3) := by decide +kernel
theorem d_X7_isNode_9 : decode c_X7_isNode 9 = .ok (.if_icmp .ge 7, 3) := by decide +kernel
theorem d_X7_isNode_12 : decode c_X7_isNode 12 = .ok (.iconst 1, 1) := by decide +kernel
theorem d_X7_isNode_13 : decode c_X7_isNode 13 = .ok (.goto 4, 3) := by decide +kernel
theorem d_X7_isNode_16 : decode c_X7_isNode 16 = .ok (.iconst 0, 1) := by decide +kernel
theorem d_X7_isNode_17 : decode c_X7_isNode 17 = .ok (.ireturn, 1) := by decide +kernel
theorem d_X7_named_0 : decode c_X7_named 0 = .ok (.iload_n 1, 1) := by decide +kernel
theorem d_X7_named_1 : decode c_X7_named 1 = .ok (.bipush 12, 2) := by decide +kernel
theorem d_X7_named_3 : decode c_X7_named 3 = .ok (.if_icmp .ne 5, 3) := by decide +kernel
theorem d_X7_named_6 : decode c_X7_named 6 = .ok (.iconst 1, 1) := by decide +kernel
theorem d_X7_named_7 : decode c_X7_named 7 = .ok (.ireturn, 1) := by decide +kernel
theorem d_X7_named_8 : decode c_X7_named 8 = .ok (.iload_n 1, 1) := by decide +kernel
theorem d_X7_named_9 : decode c_X7_named 9 = .ok (.bipush 11, 2) := by decide +kernel
theorem d_X7_named_11 : decode c_X7_named 11 = .ok (.if_icmp .eq 15, 3) := by decide +kernel
theorem d_X7_named_14 : decode c_X7_named 14 = .ok (.iload_n 1, 1) := by decide +kernel
theorem d_X7_named_15 : decode c_X7_named 15 = .ok (.bipush 15, 2) := by decide +kernel
theorem d_X7_named_17 : decode c_X7_named 17 = .ok (.if_icmp .eq 9, 3) := by decide +kernel
theorem d_X7_named_20 : decode c_X7_named 20 = .ok (.iload_n 1, 1) := by decide +kernel
theorem d_X7_named_21 : decode c_X7_named 21 = .ok (.bipush 17, 2) := by decide +kernel
theorem d_X7_named_23 : decode c_X7_named 23 = .ok (.if_icmp .ne 6, 3) := by decide +kernel
theorem d_X7_named_26 : decode c_X7_named 26 = .ok (.bipush 7, 2) := by decide +kernel
theorem d_X7_named_28 : decode c_X7_named 28 = .ok (.ireturn, 1) := by decide +kernel
theorem d_X7_named_29 : decode c_X7_named 29 = .ok (.iload_n 1, 1) := by decide +kernel
theorem d_X7_named_30 : decode c_X7_named 30 = .ok (.bipush 19, 2) := by decide +kernel
theorem d_X7_named_32 : decode c_X7_named 32 = .ok (.if_icmp .ne 5, 3) := by decide +kernel
theorem d_X7_named_35 : decode c_X7_named 35 = .ok (.iconst 2, 1) := by decide +kernel
theorem d_X7_named_36 : decode c_X7_named 36 = .ok (.ireturn, 1) := by decide +kernel
theorem d_X7_named_37 : decode c_X7_named 37 = .ok (.iload_n 1, 1) := by decide +kernel
theorem d_X7_named_38 : decode c_X7_named 38 = .ok (.iconst 3, 1) := by decide +kernel
theorem d_X7_named_39 : decode c_X7_named 39 = .ok (.if_icmp .le 9, 3) := by decide +kernel
theorem d_X7_named_42 : decode c_X7_named 42 = .ok (.iload_n 1, 1) := by decide +kernel
theorem d_X7_named_43 : decode c_X7_named 43 = .ok (.bipush 15, 2) := by decide +kernel
theorem d_X7_named_45 : decode c_X7_named 45 = .ok (.if_icmp .lt 9, 3) := by decide +kernel
theorem d_X7_named_48 : decode c_X7_named 48 = .ok (.iload_n 1, 1) := by decide +kernel
theorem d_X7_named_49 : decode c_X7_named 49 = .ok (.bipush 18, 2) := by decide +kernel
theorem d_X7_named_51 : decode c_X7_named 51 = .ok (.if_icmp .ne 7, 3) := by decide +kernel
theorem d_X7_named_54 : decode c_X7_named 54 = .ok (.iconst 3, 1) := by decide +kernel
theorem d_X7_named_55 : decode c_X7_named 55 = .ok (.goto 4, 3) := by decide +kernel
theorem d_X7_named_58 : decode c_X7_named 58 = .ok (.iconst 0, 1) := by decide +kernel
theorem d_X7_named_59 : decode c_X7_named 59 = .ok (.ireturn, 1) := by decide +kernel
theorem d_X7_fits_0 : decode c_X7_fits 0 = .ok (.aload_n 0, 1) := by decide +kernel
theorem d_X7_fits_1 : decode c_X7_fits 1 = .ok (.iload_n 1, 1) := by decide +kernel
theorem d_X7_fits_2 : decode c_X7_fits 2 = .ok (.iconst 0, 1) := by decide +kernel
theorem d_X7_fits_3 : decode c_X7_fits 3 = .ok (.bipush 19, 2) := by decide +kernel
theorem d_X7_fits_5 : decode c_X7_fits 5 = .ok (.invokevirtual 76, 3) := by decide +kernel
theorem d_X7_fits_8 : decode c_X7_fits 8 = .ok (.ifCond .eq 5, 3) := by decide +kernel
theorem d_X7_fits_11 : decode c_X7_fits 11 = .ok (.iconst 0, 1) := by decide +kernel
theorem d_X7_fits_12 : decode c_X7_fits 12 = .ok (.ireturn, 1) := by decide +kernel
theorem d_X7_fits_13 : decode c_X7_fits 13 = .ok (.iload_n 1, 1) := by decide +kernel
theorem d_X7_fits_14 : decode c_X7_fits 14 = .ok (.iconst 1, 1) := by decide +kernel
theorem d_X7_fits_15 : decode c_X7_fits 15 = .ok (.if_icmp .eq 8, 3) := by decide +kernel
theorem d_X7_fits_18 : decode c_X7_fits 18 = .ok (.iload_n 1, 1) := by decide +kernel
theorem d_X7_fits_19 : decode c_X7_fits 19 = .ok (.iconst 2, 1) := by decide +kernel
theorem d_X7_fits_20 : decode c_X7_fits 20 = .ok (.if_icmp .ne 14, 3) := by decide +kernel
theorem d_X7_fits_23 : decode c_X7_fits 23 = .ok (.aload_n 0, 1) := by decide +kernel
theorem d_X7_fits_24 : decode c_X7_fits 24 = .ok (.iload_n 2, 1) := by decide +kernel
theorem d_X7_fits_25 : decode c_X7_fits 25 = .ok (.iconst 0, 1) := by decide +kernel
theorem d_X7_fits_26 : decode c_X7_fits 26 = .ok (.bipush 7, 2) := by decide +kernel
theorem d_X7_fits_28 : decode c_X7_fits 28 = .ok (.invokevirtual 76, 3) := by decide +kernel
theorem d_X7_fits_31 : decode c_X7_fits 31 = .ok (.ifCond .ne 24, 3) := by decide +kernel
theorem d_X7_fits_34 : decode c_X7_fits 34 = .ok (.iload_n 1, 1) := by decide +kernel
theorem d_X7_fits_35 : decode c_X7_fits 35 = .ok (.iconst 3, 1) := by decide +kernel
theorem d_X7_fits_36 : decode c_X7_fits 36 = .ok (.if_icmp .eq 9, 3) := by decide +kernel
theorem d_X7_fits_39 : decode c_X7_fits 39 = .ok (.iload_n 1, 1) := by decide +kernel
theorem d_X7_fits_40 : decode c_X7_fits 40 = .ok (.bipush 19, 2) := by decide +kernel
theorem d_X7_fits_42 : decode c_X7_fits 42 = .ok (.if_icmp .ne 15, 3) := by decide +kernel
theorem d_X7_fits_45 : decode c_X7_fits 45 = .ok (.aload_n 0, 1) := by decide +kernel
theorem d_X7_fits_46 : decode c_X7_fits 46 = .ok (.iload_n 2, 1) := by decide +kernel
theorem d_X7_fits_47 : decode c_X7_fits 47 = .ok (.iconst 0, 1) := by decide +kernel
theorem d_X7_fits_48 : decode c_X7_fits 48 = .ok (.iconst 1, 1) := by decide +kernel
theorem d_X7_fits_49 : decode c_X7_fits 49 = .ok (.invokevirtual 76, 3) := by decide +kernel
theorem d_X7_fits_52 : decode c_X7_fits 52 = .ok (.ifCond .eq 5, 3) := by decide +kernel
theorem d_X7_fits_55 : decode c_X7_fits 55 = .ok (.iconst 0, 1) := by decide +kernel
theorem d_X7_fits_56 : decode c_X7_fits 56 = .ok (.ireturn, 1) := by decide +kernel
theorem d_X7_fits_57 : decode c_X7_fits 57 = .ok (.aload_n 0, 1) := by decide +kernel
theorem d_X7_fits_58 : decode c_X7_fits 58 = .ok (.iload_n 1, 1) := by decide +kernel
theorem d_X7_fits_59 : decode c_X7_fits 59 = .ok (.invokevirtual 80, 3) := by decide +kernel
theorem d_X7_fits_62 : decode c_X7_fits 62 = .ok (.istore 5, 2) := by decide +kernel
theorem d_X7_fits_64 : decode c_X7_fits 64 = .ok (.iload 5, 2) := by decide +kernel
theorem d_X7_fits_66 : decode c_X7_fits 66 = .ok (.iconst 1, 1) := by decide +kernel
theorem d_X7_fits_67 : decode c_X7_fits 67 = .ok (.iand, 1) := by decide +kernel
theorem d_X7_fits_68 : decode c_X7_fits 68 = .ok (.ifCond .eq 24, 3) := by decide +kernel
