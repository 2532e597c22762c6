theorem d_D_init_0 : decode prog_1_method_1_code 0 = .ok (.aload_n 0, 1) := by decide +kernel
theorem d_D_init_1 : decode prog_1_method_1_code 1 = .ok (.invokespecial 3, 3) := by decide +kernel
theorem d_D_init_4 : decode prog_1_method_1_code 4 = .ok (.aload_n 0, 1) := by decide +kernel
theorem d_D_init_5 : decode prog_1_method_1_code 5 = .ok (.new 9, 3) := by decide +kernel
theorem d_D_init_8 : decode prog_1_method_1_code 8 = .ok (.dup, 1) := by decide +kernel
theorem d_D_init_9 : decode prog_1_method_1_code 9 = .ok (.invokespecial 11, 3) := by decide +kernel
theorem d_D_init_12 : decode prog_1_method_1_code 12 = .ok (.putfield 12, 3) := by decide +kernel
theorem d_D_init_15 : decode prog_1_method_1_code 15 = .ok (.aload_n 0, 1) := by decide +kernel
theorem d_D_init_16 : decode prog_1_method_1_code 16 = .ok (.new 16, 3) := by decide +kernel
theorem d_D_init_19 : decode prog_1_method_1_code 19 = .ok (.dup, 1) := by decide +kernel
theorem d_D_init_20 : decode prog_1_method_1_code 20 = .ok (.invokespecial 18, 3) := by decide +kernel
theorem d_D_init_23 : decode prog_1_method_1_code 23 = .ok (.putfield 19, 3) := by decide +kernel
theorem d_D_init_26 : decode prog_1_method_1_code 26 = .ok (.aload_n 0, 1) := by decide +kernel
theorem d_D_init_27 : decode prog_1_method_1_code 27 = .ok (.new 23, 3) := by decide +kernel
theorem d_D_init_30 : decode prog_1_method_1_code 30 = .ok (.dup, 1) := by decide +kernel
theorem d_D_init_31 : decode prog_1_method_1_code 31 = .ok (.invokespecial 25, 3) := by decide +kernel
theorem d_D_init_34 : decode prog_1_method_1_code 34 = .ok (.putfield 26, 3) := by decide +kernel
theorem d_D_init_37 : decode prog_1_method_1_code 37 = .ok (.aload_n 0, 1) := by decide +kernel
theorem d_D_init_38 : decode prog_1_method_1_code 38 = .ok (.new 30, 3) := by decide +kernel
theorem d_D_init_41 : decode prog_1_method_1_code 41 = .ok (.dup, 1) := by decide +kernel
theorem d_D_init_42 : decode prog_1_method_1_code 42 = .ok (.invokespecial 32, 3) := by decide +kernel
theorem d_D_init_45 : decode prog_1_method_1_code 45 = .ok (.putfield 33, 3) := by decide +kernel
theorem d_D_init_48 : decode prog_1_method_1_code 48 = .ok (.aload_n 0, 1) := by decide +kernel
theorem d_D_init_49 : decode prog_1_method_1_code 49 = .ok (.bipush 16, 2) := by decide +kernel
theorem d_D_init_51 : decode prog_1_method_1_code 51 = .ok (.newarray .long, 2) := by decide +kernel
theorem d_D_init_53 : decode prog_1_method_1_code 53 = .ok (.putfield 37, 3) := by decide +kernel
theorem d_D_init_56 : decode prog_1_method_1_code 56 = .ok (.aload_n 0, 1) := by decide +kernel
theorem d_D_init_57 : decode prog_1_method_1_code 57 = .ok (.new 41, 3) := by decide +kernel
theorem d_D_init_60 : decode prog_1_method_1_code 60 = .ok (.dup, 1) := by decide +kernel
theorem d_D_init_61 : decode prog_1_method_1_code 61 = .ok (.invokespecial 43, 3) := by decide +kernel
theorem d_D_init_64 : decode prog_1_method_1_code 64 = .ok (.putfield 44, 3) := by decide +kernel
theorem d_D_init_67 : decode prog_1_method_1_code 67 = .ok (.return_, 1) := by decide +kernel
theorem d_N_init_0 : decode prog_3_method_1_code 0 = .ok (.aload_n 0, 1) := by decide +kernel
theorem d_N_init_1 : decode prog_3_method_1_code 1 = .ok (.invokespecial 3, 3) := by decide +kernel
theorem d_N_init_4 : decode prog_3_method_1_code 4 = .ok (.aload_n 0, 1) := by decide +kernel
theorem d_N_init_5 : decode prog_3_method_1_code 5 = .ok (.bipush 16, 2) := by decide +kernel
theorem d_N_init_7 : decode prog_3_method_1_code 7 = .ok (.newarray .long, 2) := by decide +kernel
theorem d_N_init_9 : decode prog_3_method_1_code 9 = .ok (.putfield 9, 3) := by decide +kernel
theorem d_N_init_12 : decode prog_3_method_1_code 12 = .ok (.aload_n 0, 1) := by decide +kernel
theorem d_N_init_13 : decode prog_3_method_1_code 13 = .ok (.iconst 0, 1) := by decide +kernel
theorem d_N_init_14 : decode prog_3_method_1_code 14 = .ok (.putfield 15, 3) := by decide +kernel
theorem d_N_init_17 : decode prog_3_method_1_code 17 = .ok (.return_, 1) := by decide +kernel
theorem d_T_init_0 : decode prog_6_method_1_code 0 = .ok (.aload_n 0, 1) := by decide +kernel
theorem d_T_init_1 : decode prog_6_method_1_code 1 = .ok (.invokespecial 3, 3) := by decide +kernel
theorem d_T_init_4 : decode prog_6_method_1_code 4 = .ok (.aload_n 0, 1) := by decide +kernel
theorem d_T_init_5 : decode prog_6_method_1_code 5 = .ok (.sipush 600, 3) := by decide +kernel
theorem d_T_init_8 : decode prog_6_method_1_code 8 = .ok (.newarray .int, 2) := by decide +kernel
theorem d_T_init_10 : decode prog_6_method_1_code 10 = .ok (.putfield 9, 3) := by decide +kernel
theorem d_T_init_13 : decode prog_6_method_1_code 13 = .ok (.aload_n 0, 1) := by decide +kernel
theorem d_T_init_14 : decode prog_6_method_1_code 14 = .ok (.sipush 600, 3) := by decide +kernel
theorem d_T_init_17 : decode prog_6_method_1_code 17 = .ok (.newarray .long, 2) := by decide +kernel
theorem d_T_init_19 : decode prog_6_method_1_code 19 = .ok (.putfield 15, 3) := by decide +kernel
theorem d_T_init_22 : decode prog_6_method_1_code 22 = .ok (.aload_n 0, 1) := by decide +kernel
theorem d_T_init_23 : decode prog_6_method_1_code 23 = .ok (.iconst 0, 1) := by decide +kernel
theorem d_T_init_24 : decode prog_6_method_1_code 24 = .ok (.putfield 19, 3) := by decide +kernel
theorem d_T_init_27 : decode prog_6_method_1_code 27 = .ok (.return_, 1) := by decide +kernel
theorem d_R_init_0 : decode prog_4_method_1_code 0 = .ok (.aload_n 0, 1) := by decide +kernel
theorem d_R_init_1 : decode prog_4_method_1_code 1 = .ok (.invokespecial 3, 3) := by decide +kernel
theorem d_R_init_4 : decode prog_4_method_1_code 4 = .ok (.aload_n 0, 1) := by decide +kernel
theorem d_R_init_5 : decode prog_4_method_1_code 5 = .ok (.sipush 400, 3) := by decide +kernel
theorem d_R_init_8 : decode prog_4_method_1_code 8 = .ok (.newarray .int, 2) := by decide +kernel
theorem d_R_init_10 : decode prog_4_method_1_code 10 = .ok (.putfield 9, 3) := by decide +kernel
theorem d_R_init_13 : decode prog_4_method_1_code 13 = .ok (.aload_n 0, 1) := by decide +kernel
theorem d_R_init_14 : decode prog_4_method_1_code 14 = .ok (.sipush 400, 3) := by decide +kernel
theorem d_R_init_17 : decode prog_4_method_1_code 17 = .ok (.newarray .int, 2) := by decide +kernel
theorem d_R_init_19 : decode prog_4_method_1_code 19 = .ok (.putfield 15, 3) := by decide +kernel
theorem d_R_init_22 : decode prog_4_method_1_code 22 = .ok (.aload_n 0, 1) := by decide +kernel
theorem d_R_init_23 : decode prog_4_method_1_code 23 = .ok (.sipush 400, 3) := by decide +kernel
theorem d_R_init_26 : decode prog_4_method_1_code 26 = .ok (.newarray .int, 2) := by decide +kernel
theorem d_R_init_28 : decode prog_4_method_1_code 28 = .ok (.putfield 18, 3) := by decide +kernel
theorem d_R_init_31 : decode prog_4_method_1_code 31 = .ok (.aload_n 0, 1) := by decide +kernel
theorem d_R_init_32 : decode prog_4_method_1_code 32 = .ok (.sipush 400, 3) := by decide +kernel
theorem d_R_init_35 : decode prog_4_method_1_code 35 = .ok (.newarray .long, 2) := by decide +kernel
theorem d_R_init_37 : decode prog_4_method_1_code 37 = .ok (.putfield 21, 3) := by decide +kernel
theorem d_R_init_40 : decode prog_4_method_1_code 40 = .ok (.aload_n 0, 1) := by decide +kernel
theorem d_R_init_41 : decode prog_4_method_1_code 41 = .ok (.sipush 400, 3) := by decide +kernel
theorem d_R_init_44 : decode prog_4_method_1_code 44 = .ok (.newarray .int, 2) := by decide +kernel
theorem d_R_init_46 : decode prog_4_method_1_code 46 = .ok (.putfield 25, 3) := by decide +kernel
theorem d_R_init_49 : decode prog_4_method_1_code 49 = .ok (.aload_n 0, 1) := by decide +kernel
theorem d_R_init_50 : decode prog_4_method_1_code 50 = .ok (.iconst 0, 1) := by decide +kernel
theorem d_R_init_51 : decode prog_4_method_1_code 51 = .ok (.putfield 28, 3) := by decide +kernel
theorem d_R_init_54 : decode prog_4_method_1_code 54 = .ok (.return_, 1) := by decide +kernel
theorem d_C_init_0 : decode prog_2_method_1_code 0 = .ok (.aload_n 0, 1) := by decide +kernel
theorem d_C_init_1 : decode prog_2_method_1_code 1 = .ok (.invokespecial 3, 3) := by decide +kernel
theorem d_C_init_4 : decode prog_2_method_1_code 4 = .ok (.aload_n 0, 1) := by decide +kernel
theorem d_C_init_5 : decode prog_2_method_1_code 5 = .ok (.sipush 300, 3) := by decide +kernel
theorem d_C_init_8 : decode prog_2_method_1_code 8 = .ok (.newarray .int, 2) := by decide +kernel
theorem d_C_init_10 : decode prog_2_method_1_code 10 = .ok (.putfield 9, 3) := by decide +kernel
theorem d_C_init_13 : decode prog_2_method_1_code 13 = .ok (.aload_n 0, 1) := by decide +kernel
theorem d_C_init_14 : decode prog_2_method_1_code 14 = .ok (.sipush 4800, 3) := by decide +kernel
theorem d_C_init_17 : decode prog_2_method_1_code 17 = .ok (.newarray .long, 2) := by decide +kernel
theorem d_C_init_19 : decode prog_2_method_1_code 19 = .ok (.putfield 15, 3) := by decide +kernel
theorem d_C_init_22 : decode prog_2_method_1_code 22 = .ok (.aload_n 0, 1) := by decide +kernel
theorem d_C_init_23 : decode prog_2_method_1_code 23 = .ok (.sipush 300, 3) := by decide +kernel
theorem d_C_init_26 : decode prog_2_method_1_code 26 = .ok (.newarray .int, 2) := by decide +kernel
theorem d_C_init_28 : decode prog_2_method_1_code 28 = .ok (.putfield 19, 3) := by decide +kernel
theorem d_C_init_31 : decode prog_2_method_1_code 31 = .ok (.aload_n 0, 1) := by decide +kernel
theorem d_C_init_32 : decode prog_2_method_1_code 32 = .ok (.sipush 300, 3) := by decide +kernel
theorem d_C_init_35 : decode prog_2_method_1_code 35 = .ok (.newarray .long, 2) := by decide +kernel
theorem d_C_init_37 : decode prog_2_method_1_code 37 = .ok (.putfield 22, 3) := by decide +kernel
theorem d_C_init_40 : decode prog_2_method_1_code 40 = .ok (.aload_n 0, 1) := by decide +kernel
theorem d_C_init_41 : decode prog_2_method_1_code 41 = .ok (.iconst 0, 1) := by decide +kernel
theorem d_C_init_42 : decode prog_2_method_1_code 42 = .ok (.putfield 25, 3) := by decide +kernel
theorem d_C_init_45 : decode prog_2_method_1_code 45 = .ok (.return_, 1) := by decide +kernel
theorem d_G_init_0 : decode prog_5_method_1_code 0 = .ok (.aload_n 0, 1) := by decide +kernel
theorem d_G_init_1 : decode prog_5_method_1_code 1 = .ok (.invokespecial 3, 3) := by decide +kernel
theorem d_G_init_4 : decode prog_5_method_1_code 4 = .ok (.aload_n 0, 1) := by decide +kernel
theorem d_G_init_5 : decode prog_5_method_1_code 5 = .ok (.sipush 1648, 3) := by decide +kernel
theorem d_G_init_8 : decode prog_5_method_1_code 8 = .ok (.newarray .char, 2) := by decide +kernel
theorem d_G_init_10 : decode prog_5_method_1_code 10 = .ok (.putfield 9, 3) := by decide +kernel
theorem d_G_init_13 : decode prog_5_method_1_code 13 = .ok (.aload_n 0, 1) := by decide +kernel
theorem d_G_init_14 : decode prog_5_method_1_code 14 = .ok (.iconst 0, 1) := by decide +kernel
theorem d_G_init_15 : decode prog_5_method_1_code 15 = .ok (.putfield 15, 3) := by decide +kernel
theorem d_G_init_18 : decode prog_5_method_1_code 18 = .ok (.return_, 1) := by decide +kernel
theorem d_D_versions_0 : decode prog_1_method_2_code 0 = .ok (.aload_n 0, 1) := by decide +kernel
theorem d_D_versions_1 : decode prog_1_method_2_code 1 = .ok (.getfield 12, 3) := by decide +kernel
theorem d_D_versions_4 : decode prog_1_method_2_code 4 = .ok (.iload_n 1, 1) := by decide +kernel
theorem d_D_versions_5 : decode prog_1_method_2_code 5 = .ok (.invokevirtual 48, 3) := by decide +kernel
theorem d_D_versions_8 : decode prog_1_method_2_code 8 = .ok (.istore_n 2, 1) := by decide +kernel
theorem d_D_versions_9 : decode prog_1_method_2_code 9 = .ok (.iload_n 2, 1) := by decide +kernel
theorem d_D_versions_10 : decode prog_1_method_2_code 10 = .ok (.iconst (-1), 1) := by decide +kernel
theorem d_D_versions_11 : decode prog_1_method_2_code 11 = .ok (.if_icmp .eq 17, 3) := by decide +kernel
theorem d_D_versions_14 : decode prog_1_method_2_code 14 = .ok (.aload_n 0, 1) := by decide +kernel
theorem d_D_versions_15 : decode prog_1_method_2_code 15 = .ok (.getfield 37, 3) := by decide +kernel
theorem d_D_versions_18 : decode prog_1_method_2_code 18 = .ok (.iload_n 2, 1) := by decide +kernel
theorem d_D_versions_19 : decode prog_1_method_2_code 19 = .ok (.aload_n 0, 1) := by decide +kernel
theorem d_D_versions_20 : decode prog_1_method_2_code 20 = .ok (.getfield 12, 3) := by decide +kernel
theorem d_D_versions_23 : decode prog_1_method_2_code 23 = .ok (.iload_n 2, 1) := by decide +kernel
theorem d_D_versions_24 : decode prog_1_method_2_code 24 = .ok (.invokevirtual 52, 3) := by decide +kernel
theorem d_D_versions_27 : decode prog_1_method_2_code 27 = .ok (.lastore, 1) := by decide +kernel
theorem d_D_versions_28 : decode prog_1_method_2_code 28 = .ok (.iload_n 2, 1) := by decide +kernel
theorem d_D_versions_29 : decode prog_1_method_2_code 29 = .ok (.ireturn, 1) := by decide +kernel
theorem d_N_add_0 : decode prog_3_method_3_code 0 = .ok (.aload_n 0, 1) := by decide +kernel
theorem d_N_add_1 : decode prog_3_method_3_code 1 = .ok (.getfield 15, 3) := by decide +kernel
theorem d_N_add_4 : decode prog_3_method_3_code 4 = .ok (.bipush 16, 2) := by decide +kernel
theorem d_N_add_6 : decode prog_3_method_3_code 6 = .ok (.if_icmp .ge 13, 3) := by decide +kernel
theorem d_N_add_9 : decode prog_3_method_3_code 9 = .ok (.iload_n 1, 1) := by decide +kernel
theorem d_N_add_10 : decode prog_3_method_3_code 10 = .ok (.ifCond .lt 9, 3) := by decide +kernel
theorem d_N_add_13 : decode prog_3_method_3_code 13 = .ok (.iload_n 1, 1) := by decide +kernel
theorem d_N_add_14 : decode prog_3_method_3_code 14 = .ok (.bipush 48, 2) := by decide +kernel
theorem d_N_add_16 : decode prog_3_method_3_code 16 = .ok (.if_icmp .le 5, 3) := by decide +kernel
theorem d_N_add_19 : decode prog_3_method_3_code 19 = .ok (.iconst (-1), 1) := by decide +kernel
theorem d_N_add_20 : decode prog_3_method_3_code 20 = .ok (.ireturn, 1) := by decide +kernel
theorem d_N_add_21 : decode prog_3_method_3_code 21 = .ok (.aload_n 0, 1) := by decide +kernel
theorem d_N_add_22 : decode prog_3_method_3_code 22 = .ok (.getfield 9, 3) := by decide +kernel
theorem d_N_add_25 : decode prog_3_method_3_code 25 = .ok (.aload_n 0, 1) := by decide +kernel
theorem d_N_add_26 : decode prog_3_method_3_code 26 = .ok (.getfield 15, 3) := by decide +kernel
theorem d_N_add_29 : decode prog_3_method_3_code 29 = .ok (.lconst 1, 1) := by decide +kernel
theorem d_N_add_30 : decode prog_3_method_3_code 30 = .ok (.iload_n 1, 1) := by decide +kernel
theorem d_N_add_31 : decode prog_3_method_3_code 31 = .ok (.lshl, 1) := by decide +kernel
theorem d_N_add_32 : decode prog_3_method_3_code 32 = .ok (.lconst 1, 1) := by decide +kernel
theorem d_N_add_33 : decode prog_3_method_3_code 33 = .ok (.lsub, 1) := by decide +kernel
theorem d_N_add_34 : decode prog_3_method_3_code 34 = .ok (.ldc2_w 19, 3) := by decide +kernel
theorem d_N_add_37 : decode prog_3_method_3_code 37 = .ok (.lor, 1) := by decide +kernel
theorem d_N_add_38 : decode prog_3_method_3_code 38 = .ok (.lastore, 1) := by decide +kernel
theorem d_N_add_39 : decode prog_3_method_3_code 39 = .ok (.aload_n 0, 1) := by decide +kernel
theorem d_N_add_40 : decode prog_3_method_3_code 40 = .ok (.dup, 1) := by decide +kernel
theorem d_N_add_41 : decode prog_3_method_3_code 41 = .ok (.getfield 15, 3) := by decide +kernel
theorem d_N_add_44 : decode prog_3_method_3_code 44 = .ok (.iconst 1, 1) := by decide +kernel
theorem d_N_add_45 : decode prog_3_method_3_code 45 = .ok (.iadd, 1) := by decide +kernel
theorem d_N_add_46 : decode prog_3_method_3_code 46 = .ok (.putfield 15, 3) := by decide +kernel
theorem d_N_add_49 : decode prog_3_method_3_code 49 = .ok (.aload_n 0, 1) := by decide +kernel
theorem d_N_add_50 : decode prog_3_method_3_code 50 = .ok (.getfield 15, 3) := by decide +kernel
theorem d_N_add_53 : decode prog_3_method_3_code 53 = .ok (.iconst 1, 1) := by decide +kernel
theorem d_N_add_54 : decode prog_3_method_3_code 54 = .ok (.isub, 1) := by decide +kernel
theorem d_N_add_55 : decode prog_3_method_3_code 55 = .ok (.ireturn, 1) := by decide +kernel
theorem d_N_everywhere_0 : decode prog_3_method_6_code 0 = .ok (.aload_n 0, 1) := by decide +kernel
theorem d_N_everywhere_1 : decode prog_3_method_6_code 1 = .ok (.iload_n 1, 1) := by decide +kernel
theorem d_N_everywhere_2 : decode prog_3_method_6_code 2 = .ok (.invokevirtual 29, 3) := by decide +kernel
theorem d_N_everywhere_5 : decode prog_3_method_6_code 5 = .ok (.ifCond .eq 12, 3) := by decide +kernel
theorem d_N_everywhere_8 : decode prog_3_method_6_code 8 = .ok (.aload_n 0, 1) := by decide +kernel
theorem d_N_everywhere_9 : decode prog_3_method_6_code 9 = .ok (.getfield 9, 3) := by decide +kernel
theorem d_N_everywhere_12 : decode prog_3_method_6_code 12 = .ok (.iload_n 1, 1) := by decide +kernel
theorem d_N_everywhere_13 : decode prog_3_method_6_code 13 = .ok (.laload, 1) := by decide +kernel
theorem d_N_everywhere_14 : decode prog_3_method_6_code 14 = .ok (.goto 4, 3) := by decide +kernel
theorem d_N_everywhere_17 : decode prog_3_method_6_code 17 = .ok (.lconst 0, 1) := by decide +kernel
theorem d_N_everywhere_18 : decode prog_3_method_6_code 18 = .ok (.lreturn, 1) := by decide +kernel
theorem d_N_has_0 : decode prog_3_method_4_code 0 = .ok (.iload_n 1, 1) := by decide +kernel
theorem d_N_has_1 : decode prog_3_method_4_code 1 = .ok (.ifCond .lt 15, 3) := by decide +kernel
theorem d_N_has_4 : decode prog_3_method_4_code 4 = .ok (.iload_n 1, 1) := by decide +kernel
theorem d_N_has_5 : decode prog_3_method_4_code 5 = .ok (.aload_n 0, 1) := by decide +kernel
theorem d_N_has_6 : decode prog_3_method_4_code 6 = .ok (.getfield 15, 3) := by decide +kernel
theorem d_N_has_9 : decode prog_3_method_4_code 9 = .ok (.if_icmp .ge 7, 3) := by decide +kernel
theorem d_N_has_12 : decode prog_3_method_4_code 12 = .ok (.iconst 1, 1) := by decide +kernel
theorem d_N_has_13 : decode prog_3_method_4_code 13 = .ok (.goto 4, 3) := by decide +kernel
theorem d_N_has_16 : decode prog_3_method_4_code 16 = .ok (.iconst 0, 1) := by decide +kernel
theorem d_N_has_17 : decode prog_3_method_4_code 17 = .ok (.ireturn, 1) := by decide +kernel
theorem d_D_term_0 : decode prog_1_method_3_code 0 = .ok (.aload_n 0, 1) := by decide +kernel
theorem d_D_term_1 : decode prog_1_method_3_code 1 = .ok (.getfield 12, 3) := by decide +kernel
theorem d_D_term_4 : decode prog_1_method_3_code 4 = .ok (.iload_n 1, 1) := by decide +kernel
theorem d_D_term_5 : decode prog_1_method_3_code 5 = .ok (.invokevirtual 56, 3) := by decide +kernel
theorem d_D_term_8 : decode prog_1_method_3_code 8 = .ok (.ifCond .ne 5, 3) := by decide +kernel
theorem d_D_term_11 : decode prog_1_method_3_code 11 = .ok (.iconst (-1), 1) := by decide +kernel
theorem d_D_term_12 : decode prog_1_method_3_code 12 = .ok (.ireturn, 1) := by decide +kernel
theorem d_D_term_13 : decode prog_1_method_3_code 13 = .ok (.aload_n 0, 1) := by decide +kernel
theorem d_D_term_14 : decode prog_1_method_3_code 14 = .ok (.getfield 19, 3) := by decide +kernel
theorem d_D_term_17 : decode prog_1_method_3_code 17 = .ok (.iload_n 1, 1) := by decide +kernel
theorem d_D_term_18 : decode prog_1_method_3_code 18 = .ok (.aload_n 0, 1) := by decide +kernel
theorem d_D_term_19 : decode prog_1_method_3_code 19 = .ok (.getfield 12, 3) := by decide +kernel
theorem d_D_term_22 : decode prog_1_method_3_code 22 = .ok (.iload_n 1, 1) := by decide +kernel
theorem d_D_term_23 : decode prog_1_method_3_code 23 = .ok (.lload_n 2, 1) := by decide +kernel
theorem d_D_term_24 : decode prog_1_method_3_code 24 = .ok (.iload 4, 2) := by decide +kernel
theorem d_D_term_26 : decode prog_1_method_3_code 26 = .ok (.invokevirtual 60, 3) := by decide +kernel
theorem d_D_term_29 : decode prog_1_method_3_code 29 = .ok (.invokevirtual 64, 3) := by decide +kernel
theorem d_D_term_32 : decode prog_1_method_3_code 32 = .ok (.ireturn, 1) := by decide +kernel
theorem d_N_placesOf_0 : decode prog_3_method_7_code 0 = .ok (.lload_n 2, 1) := by decide +kernel
theorem d_N_placesOf_1 : decode prog_3_method_7_code 1 = .ok (.aload_n 0, 1) := by decide +kernel
theorem d_N_placesOf_2 : decode prog_3_method_7_code 2 = .ok (.iload_n 1, 1) := by decide +kernel
theorem d_N_placesOf_3 : decode prog_3_method_7_code 3 = .ok (.invokevirtual 21, 3) := by decide +kernel
theorem d_N_placesOf_6 : decode prog_3_method_7_code 6 = .ok (.land, 1) := by decide +kernel
theorem d_N_placesOf_7 : decode prog_3_method_7_code 7 = .ok (.ldc2_w 33, 3) := by decide +kernel
theorem d_N_placesOf_10 : decode prog_3_method_7_code 10 = .ok (.land, 1) := by decide +kernel
theorem d_N_placesOf_11 : decode prog_3_method_7_code 11 = .ok (.lstore 5, 2) := by decide +kernel
theorem d_N_placesOf_13 : decode prog_3_method_7_code 13 = .ok (.iload 4, 2) := by decide +kernel
theorem d_N_placesOf_15 : decode prog_3_method_7_code 15 = .ok (.ifCond .eq 8, 3) := by decide +kernel
theorem d_N_placesOf_18 : decode prog_3_method_7_code 18 = .ok (.lload 5, 2) := by decide +kernel
theorem d_N_placesOf_20 : decode prog_3_method_7_code 20 = .ok (.goto 11, 3) := by decide +kernel
theorem d_N_placesOf_23 : decode prog_3_method_7_code 23 = .ok (.aload_n 0, 1) := by decide +kernel
theorem d_N_placesOf_24 : decode prog_3_method_7_code 24 = .ok (.iload_n 1, 1) := by decide +kernel
theorem d_N_placesOf_25 : decode prog_3_method_7_code 25 = .ok (.invokevirtual 21, 3) := by decide +kernel
theorem d_N_placesOf_28 : decode prog_3_method_7_code 28 = .ok (.lload 5, 2) := by decide +kernel
theorem d_N_placesOf_30 : decode prog_3_method_7_code 30 = .ok (.lxor, 1) := by decide +kernel
theorem d_N_placesOf_31 : decode prog_3_method_7_code 31 = .ok (.lreturn, 1) := by decide +kernel
theorem d_T_add_0 : decode prog_6_method_3_code 0 = .ok (.aload_n 0, 1) := by decide +kernel
theorem d_T_add_1 : decode prog_6_method_3_code 1 = .ok (.getfield 19, 3) := by decide +kernel
theorem d_T_add_4 : decode prog_6_method_3_code 4 = .ok (.sipush 600, 3) := by decide +kernel
theorem d_T_add_7 : decode prog_6_method_3_code 7 = .ok (.if_icmp .lt 5, 3) := by decide +kernel
theorem d_T_add_10 : decode prog_6_method_3_code 10 = .ok (.iconst (-1), 1) := by decide +kernel
theorem d_T_add_11 : decode prog_6_method_3_code 11 = .ok (.ireturn, 1) := by decide +kernel
theorem d_T_add_12 : decode prog_6_method_3_code 12 = .ok (.aload_n 0, 1) := by decide +kernel
theorem d_T_add_13 : decode prog_6_method_3_code 13 = .ok (.getfield 9, 3) := by decide +kernel
theorem d_T_add_16 : decode prog_6_method_3_code 16 = .ok (.aload_n 0, 1) := by decide +kernel
theorem d_T_add_17 : decode prog_6_method_3_code 17 = .ok (.getfield 19, 3) := by decide +kernel
theorem d_T_add_20 : decode prog_6_method_3_code 20 = .ok (.iload_n 1, 1) := by decide +kernel
theorem d_T_add_21 : decode prog_6_method_3_code 21 = .ok (.iastore, 1) := by decide +kernel
theorem d_T_add_22 : decode prog_6_method_3_code 22 = .ok (.aload_n 0, 1) := by decide +kernel
theorem d_T_add_23 : decode prog_6_method_3_code 23 = .ok (.getfield 15, 3) := by decide +kernel
theorem d_T_add_26 : decode prog_6_method_3_code 26 = .ok (.aload_n 0, 1) := by decide +kernel
theorem d_T_add_27 : decode prog_6_method_3_code 27 = .ok (.getfield 19, 3) := by decide +kernel
theorem d_T_add_30 : decode prog_6_method_3_code 30 = .ok (.lload_n 2, 1) := by decide +kernel
theorem d_T_add_31 : decode prog_6_method_3_code 31 = .ok (.lastore, 1) := by decide +kernel
theorem d_T_add_32 : decode prog_6_method_3_code 32 = .ok (.aload_n 0, 1) := by decide +kernel
theorem d_T_add_33 : decode prog_6_method_3_code 33 = .ok (.dup, 1) := by decide +kernel
theorem d_T_add_34 : decode prog_6_method_3_code 34 = .ok (.getfield 19, 3) := by decide +kernel
theorem d_T_add_37 : decode prog_6_method_3_code 37 = .ok (.iconst 1, 1) := by decide +kernel
theorem d_T_add_38 : decode prog_6_method_3_code 38 = .ok (.iadd, 1) := by decide +kernel
theorem d_T_add_39 : decode prog_6_method_3_code 39 = .ok (.putfield 19, 3) := by decide +kernel
theorem d_T_add_42 : decode prog_6_method_3_code 42 = .ok (.aload_n 0, 1) := by decide +kernel
theorem d_T_add_43 : decode prog_6_method_3_code 43 = .ok (.getfield 19, 3) := by decide +kernel
theorem d_T_add_46 : decode prog_6_method_3_code 46 = .ok (.iconst 1, 1) := by decide +kernel
theorem d_T_add_47 : decode prog_6_method_3_code 47 = .ok (.isub, 1) := by decide +kernel
theorem d_T_add_48 : decode prog_6_method_3_code 48 = .ok (.ireturn, 1) := by decide +kernel
theorem d_D_both_0 : decode prog_1_method_4_code 0 = .ok (.aload_n 0, 1) := by decide +kernel
theorem d_D_both_1 : decode prog_1_method_4_code 1 = .ok (.getfield 19, 3) := by decide +kernel
theorem d_D_both_4 : decode prog_1_method_4_code 4 = .ok (.iload_n 1, 1) := by decide +kernel
theorem d_D_both_5 : decode prog_1_method_4_code 5 = .ok (.invokevirtual 67, 3) := by decide +kernel
theorem d_D_both_8 : decode prog_1_method_4_code 8 = .ok (.ifCond .eq 33, 3) := by decide +kernel
theorem d_D_both_11 : decode prog_1_method_4_code 11 = .ok (.aload_n 0, 1) := by decide +kernel
theorem d_D_both_12 : decode prog_1_method_4_code 12 = .ok (.getfield 19, 3) := by decide +kernel
theorem d_D_both_15 : decode prog_1_method_4_code 15 = .ok (.iload_n 2, 1) := by decide +kernel
theorem d_D_both_16 : decode prog_1_method_4_code 16 = .ok (.invokevirtual 67, 3) := by decide +kernel
theorem d_D_both_19 : decode prog_1_method_4_code 19 = .ok (.ifCond .eq 22, 3) := by decide +kernel
theorem d_D_both_22 : decode prog_1_method_4_code 22 = .ok (.aload_n 0, 1) := by decide +kernel
theorem d_D_both_23 : decode prog_1_method_4_code 23 = .ok (.getfield 19, 3) := by decide +kernel
theorem d_D_both_26 : decode prog_1_method_4_code 26 = .ok (.iload_n 1, 1) := by decide +kernel
theorem d_D_both_27 : decode prog_1_method_4_code 27 = .ok (.invokevirtual 68, 3) := by decide +kernel
theorem d_D_both_30 : decode prog_1_method_4_code 30 = .ok (.aload_n 0, 1) := by decide +kernel
theorem d_D_both_31 : decode prog_1_method_4_code 31 = .ok (.getfield 19, 3) := by decide +kernel
theorem d_D_both_34 : decode prog_1_method_4_code 34 = .ok (.iload_n 2, 1) := by decide +kernel
theorem d_D_both_35 : decode prog_1_method_4_code 35 = .ok (.invokevirtual 68, 3) := by decide +kernel
theorem d_D_both_38 : decode prog_1_method_4_code 38 = .ok (.if_icmp .eq 5, 3) := by decide +kernel
theorem d_D_both_41 : decode prog_1_method_4_code 41 = .ok (.iconst (-1), 1) := by decide +kernel
theorem d_D_both_42 : decode prog_1_method_4_code 42 = .ok (.ireturn, 1) := by decide +kernel
theorem d_D_both_43 : decode prog_1_method_4_code 43 = .ok (.aload_n 0, 1) := by decide +kernel
theorem d_D_both_44 : decode prog_1_method_4_code 44 = .ok (.getfield 19, 3) := by decide +kernel
theorem d_D_both_47 : decode prog_1_method_4_code 47 = .ok (.iload_n 1, 1) := by decide +kernel
theorem d_D_both_48 : decode prog_1_method_4_code 48 = .ok (.invokevirtual 71, 3) := by decide +kernel
theorem d_D_both_51 : decode prog_1_method_4_code 51 = .ok (.lstore 4, 2) := by decide +kernel
theorem d_D_both_53 : decode prog_1_method_4_code 53 = .ok (.aload_n 0, 1) := by decide +kernel
theorem d_D_both_54 : decode prog_1_method_4_code 54 = .ok (.getfield 19, 3) := by decide +kernel
theorem d_D_both_57 : decode prog_1_method_4_code 57 = .ok (.iload_n 2, 1) := by decide +kernel
theorem d_D_both_58 : decode prog_1_method_4_code 58 = .ok (.invokevirtual 71, 3) := by decide +kernel
theorem d_D_both_61 : decode prog_1_method_4_code 61 = .ok (.lstore 6, 2) := by decide +kernel
theorem d_D_both_63 : decode prog_1_method_4_code 63 = .ok (.aload_n 0, 1) := by decide +kernel
theorem d_D_both_64 : decode prog_1_method_4_code 64 = .ok (.getfield 19, 3) := by decide +kernel
theorem d_D_both_67 : decode prog_1_method_4_code 67 = .ok (.aload_n 0, 1) := by decide +kernel
theorem d_D_both_68 : decode prog_1_method_4_code 68 = .ok (.getfield 19, 3) := by decide +kernel
theorem d_D_both_71 : decode prog_1_method_4_code 71 = .ok (.iload_n 1, 1) := by decide +kernel
theorem d_D_both_72 : decode prog_1_method_4_code 72 = .ok (.invokevirtual 68, 3) := by decide +kernel
theorem d_D_both_75 : decode prog_1_method_4_code 75 = .ok (.iload_n 3, 1) := by decide +kernel
theorem d_D_both_76 : decode prog_1_method_4_code 76 = .ok (.ifCond .eq 11, 3) := by decide +kernel
theorem d_D_both_79 : decode prog_1_method_4_code 79 = .ok (.lload 4, 2) := by decide +kernel
theorem d_D_both_81 : decode prog_1_method_4_code 81 = .ok (.lload 6, 2) := by decide +kernel
theorem d_D_both_83 : decode prog_1_method_4_code 83 = .ok (.lor, 1) := by decide +kernel
theorem d_D_both_84 : decode prog_1_method_4_code 84 = .ok (.goto 8, 3) := by decide +kernel
theorem d_D_both_87 : decode prog_1_method_4_code 87 = .ok (.lload 4, 2) := by decide +kernel
theorem d_D_both_89 : decode prog_1_method_4_code 89 = .ok (.lload 6, 2) := by decide +kernel
theorem d_D_both_91 : decode prog_1_method_4_code 91 = .ok (.land, 1) := by decide +kernel
theorem d_D_both_92 : decode prog_1_method_4_code 92 = .ok (.invokevirtual 64, 3) := by decide +kernel
theorem d_D_both_95 : decode prog_1_method_4_code 95 = .ok (.ireturn, 1) := by decide +kernel
theorem d_T_has_0 : decode prog_6_method_2_code 0 = .ok (.iload_n 1, 1) := by decide +kernel
theorem d_T_has_1 : decode prog_6_method_2_code 1 = .ok (.ifCond .lt 15, 3) := by decide +kernel
theorem d_T_has_4 : decode prog_6_method_2_code 4 = .ok (.iload_n 1, 1) := by decide +kernel
theorem d_T_has_5 : decode prog_6_method_2_code 5 = .ok (.aload_n 0, 1) := by decide +kernel
theorem d_T_has_6 : decode prog_6_method_2_code 6 = .ok (.getfield 19, 3) := by decide +kernel
theorem d_T_has_9 : decode prog_6_method_2_code 9 = .ok (.if_icmp .ge 7, 3) := by decide +kernel
theorem d_T_has_12 : decode prog_6_method_2_code 12 = .ok (.iconst 1, 1) := by decide +kernel
theorem d_T_has_13 : decode prog_6_method_2_code 13 = .ok (.goto 4, 3) := by decide +kernel
theorem d_T_has_16 : decode prog_6_method_2_code 16 = .ok (.iconst 0, 1) := by decide +kernel
theorem d_T_has_17 : decode prog_6_method_2_code 17 = .ok (.ireturn, 1) := by decide +kernel
theorem d_T_nameOf_0 : decode prog_6_method_4_code 0 = .ok (.aload_n 0, 1) := by decide +kernel
theorem d_T_nameOf_1 : decode prog_6_method_4_code 1 = .ok (.iload_n 1, 1) := by decide +kernel
theorem d_T_nameOf_2 : decode prog_6_method_4_code 2 = .ok (.invokevirtual 23, 3) := by decide +kernel
theorem d_T_nameOf_5 : decode prog_6_method_4_code 5 = .ok (.ifCond .eq 12, 3) := by decide +kernel
theorem d_T_nameOf_8 : decode prog_6_method_4_code 8 = .ok (.aload_n 0, 1) := by decide +kernel
theorem d_T_nameOf_9 : decode prog_6_method_4_code 9 = .ok (.getfield 9, 3) := by decide +kernel
theorem d_T_nameOf_12 : decode prog_6_method_4_code 12 = .ok (.iload_n 1, 1) := by decide +kernel
theorem d_T_nameOf_13 : decode prog_6_method_4_code 13 = .ok (.iaload, 1) := by decide +kernel
theorem d_T_nameOf_14 : decode prog_6_method_4_code 14 = .ok (.goto 4, 3) := by decide +kernel
theorem d_T_nameOf_17 : decode prog_6_method_4_code 17 = .ok (.iconst (-1), 1) := by decide +kernel
theorem d_T_nameOf_18 : decode prog_6_method_4_code 18 = .ok (.ireturn, 1) := by decide +kernel
theorem d_T_placesOf_0 : decode prog_6_method_5_code 0 = .ok (.aload_n 0, 1) := by decide +kernel
theorem d_T_placesOf_1 : decode prog_6_method_5_code 1 = .ok (.iload_n 1, 1) := by decide +kernel
theorem d_T_placesOf_2 : decode prog_6_method_5_code 2 = .ok (.invokevirtual 23, 3) := by decide +kernel
theorem d_T_placesOf_5 : decode prog_6_method_5_code 5 = .ok (.ifCond .eq 12, 3) := by decide +kernel
theorem d_T_placesOf_8 : decode prog_6_method_5_code 8 = .ok (.aload_n 0, 1) := by decide +kernel
theorem d_T_placesOf_9 : decode prog_6_method_5_code 9 = .ok (.getfield 15, 3) := by decide +kernel
theorem d_T_placesOf_12 : decode prog_6_method_5_code 12 = .ok (.iload_n 1, 1) := by decide +kernel
theorem d_T_placesOf_13 : decode prog_6_method_5_code 13 = .ok (.laload, 1) := by decide +kernel
theorem d_T_placesOf_14 : decode prog_6_method_5_code 14 = .ok (.goto 4, 3) := by decide +kernel
theorem d_T_placesOf_17 : decode prog_6_method_5_code 17 = .ok (.lconst 0, 1) := by decide +kernel
theorem d_T_placesOf_18 : decode prog_6_method_5_code 18 = .ok (.lreturn, 1) := by decide +kernel
theorem d_D_relate_0 : decode prog_1_method_5_code 0 = .ok (.aload_n 0, 1) := by decide +kernel
theorem d_D_relate_1 : decode prog_1_method_5_code 1 = .ok (.getfield 19, 3) := by decide +kernel
theorem d_D_relate_4 : decode prog_1_method_5_code 4 = .ok (.iload_n 1, 1) := by decide +kernel
theorem d_D_relate_5 : decode prog_1_method_5_code 5 = .ok (.invokevirtual 67, 3) := by decide +kernel
theorem d_D_relate_8 : decode prog_1_method_5_code 8 = .ok (.ifCond .eq 14, 3) := by decide +kernel
theorem d_D_relate_11 : decode prog_1_method_5_code 11 = .ok (.aload_n 0, 1) := by decide +kernel
theorem d_D_relate_12 : decode prog_1_method_5_code 12 = .ok (.getfield 19, 3) := by decide +kernel
theorem d_D_relate_15 : decode prog_1_method_5_code 15 = .ok (.iload_n 2, 1) := by decide +kernel
theorem d_D_relate_16 : decode prog_1_method_5_code 16 = .ok (.invokevirtual 67, 3) := by decide +kernel
theorem d_D_relate_19 : decode prog_1_method_5_code 19 = .ok (.ifCond .ne 6, 3) := by decide +kernel
theorem d_D_relate_22 : decode prog_1_method_5_code 22 = .ok (.bipush (-2), 2) := by decide +kernel
theorem d_D_relate_24 : decode prog_1_method_5_code 24 = .ok (.ireturn, 1) := by decide +kernel
theorem d_D_relate_25 : decode prog_1_method_5_code 25 = .ok (.aload_n 0, 1) := by decide +kernel
theorem d_D_relate_26 : decode prog_1_method_5_code 26 = .ok (.getfield 19, 3) := by decide +kernel
theorem d_D_relate_29 : decode prog_1_method_5_code 29 = .ok (.iload_n 1, 1) := by decide +kernel
theorem d_D_relate_30 : decode prog_1_method_5_code 30 = .ok (.invokevirtual 71, 3) := by decide +kernel
theorem d_D_relate_33 : decode prog_1_method_5_code 33 = .ok (.lstore_n 3, 1) := by decide +kernel
theorem d_D_relate_34 : decode prog_1_method_5_code 34 = .ok (.lload_n 3, 1) := by decide +kernel
theorem d_D_relate_35 : decode prog_1_method_5_code 35 = .ok (.lconst 0, 1) := by decide +kernel
theorem d_D_relate_36 : decode prog_1_method_5_code 36 = .ok (.lcmp, 1) := by decide +kernel
theorem d_D_relate_37 : decode prog_1_method_5_code 37 = .ok (.ifCond .eq 24, 3) := by decide +kernel
theorem d_D_relate_40 : decode prog_1_method_5_code 40 = .ok (.aload_n 0, 1) := by decide +kernel
theorem d_D_relate_41 : decode prog_1_method_5_code 41 = .ok (.getfield 19, 3) := by decide +kernel
theorem d_D_relate_44 : decode prog_1_method_5_code 44 = .ok (.iload_n 1, 1) := by decide +kernel
theorem d_D_relate_45 : decode prog_1_method_5_code 45 = .ok (.invokevirtual 68, 3) := by decide +kernel
theorem d_D_relate_48 : decode prog_1_method_5_code 48 = .ok (.aload_n 0, 1) := by decide +kernel
theorem d_D_relate_49 : decode prog_1_method_5_code 49 = .ok (.getfield 19, 3) := by decide +kernel
theorem d_D_relate_52 : decode prog_1_method_5_code 52 = .ok (.iload_n 2, 1) := by decide +kernel
theorem d_D_relate_53 : decode prog_1_method_5_code 53 = .ok (.invokevirtual 68, 3) := by decide +kernel
theorem d_D_relate_56 : decode prog_1_method_5_code 56 = .ok (.if_icmp .eq 5, 3) := by decide +kernel
theorem d_D_relate_59 : decode prog_1_method_5_code 59 = .ok (.iconst 0, 1) := by decide +kernel
theorem d_D_relate_60 : decode prog_1_method_5_code 60 = .ok (.ireturn, 1) := by decide +kernel
theorem d_D_relate_61 : decode prog_1_method_5_code 61 = .ok (.lload_n 3, 1) := by decide +kernel
theorem d_D_relate_62 : decode prog_1_method_5_code 62 = .ok (.aload_n 0, 1) := by decide +kernel
theorem d_D_relate_63 : decode prog_1_method_5_code 63 = .ok (.getfield 19, 3) := by decide +kernel
theorem d_D_relate_66 : decode prog_1_method_5_code 66 = .ok (.iload_n 2, 1) := by decide +kernel
theorem d_D_relate_67 : decode prog_1_method_5_code 67 = .ok (.invokevirtual 71, 3) := by decide +kernel
theorem d_D_relate_70 : decode prog_1_method_5_code 70 = .ok (.invokestatic 73, 3) := by decide +kernel
theorem d_D_relate_73 : decode prog_1_method_5_code 73 = .ok (.ireturn, 1) := by decide +kernel
theorem d_D_relation_0 : decode prog_1_method_39_code 0 = .ok (.lload_n 0, 1) := by decide +kernel
theorem d_D_relation_1 : decode prog_1_method_39_code 1 = .ok (.lload_n 2, 1) := by decide +kernel
theorem d_D_relation_2 : decode prog_1_method_39_code 2 = .ok (.land, 1) := by decide +kernel
theorem d_D_relation_3 : decode prog_1_method_39_code 3 = .ok (.lconst 0, 1) := by decide +kernel
theorem d_D_relation_4 : decode prog_1_method_39_code 4 = .ok (.lcmp, 1) := by decide +kernel
theorem d_D_relation_5 : decode prog_1_method_39_code 5 = .ok (.ifCond .ne 5, 3) := by decide +kernel
theorem d_D_relation_8 : decode prog_1_method_39_code 8 = .ok (.iconst (-1), 1) := by decide +kernel
theorem d_D_relation_9 : decode prog_1_method_39_code 9 = .ok (.ireturn, 1) := by decide +kernel
theorem d_D_relation_10 : decode prog_1_method_39_code 10 = .ok (.lload_n 0, 1) := by decide +kernel
theorem d_D_relation_11 : decode prog_1_method_39_code 11 = .ok (.lload_n 2, 1) := by decide +kernel
theorem d_D_relation_12 : decode prog_1_method_39_code 12 = .ok (.ldc2_w 219, 3) := by decide +kernel
theorem d_D_relation_15 : decode prog_1_method_39_code 15 = .ok (.lxor, 1) := by decide +kernel
theorem d_D_relation_16 : decode prog_1_method_39_code 16 = .ok (.land, 1) := by decide +kernel
theorem d_D_relation_17 : decode prog_1_method_39_code 17 = .ok (.lconst 0, 1) := by decide +kernel
theorem d_D_relation_18 : decode prog_1_method_39_code 18 = .ok (.lcmp, 1) := by decide +kernel
theorem d_D_relation_19 : decode prog_1_method_39_code 19 = .ok (.ifCond .ne 7, 3) := by decide +kernel
theorem d_D_relation_22 : decode prog_1_method_39_code 22 = .ok (.iconst 1, 1) := by decide +kernel
theorem d_D_relation_23 : decode prog_1_method_39_code 23 = .ok (.goto 4, 3) := by decide +kernel
theorem d_D_relation_26 : decode prog_1_method_39_code 26 = .ok (.iconst 0, 1) := by decide +kernel
theorem d_D_relation_27 : decode prog_1_method_39_code 27 = .ok (.ireturn, 1) := by decide +kernel
theorem d_D_about_0 : decode prog_1_method_6_code 0 = .ok (.aload_n 0, 1) := by decide +kernel
theorem d_D_about_1 : decode prog_1_method_6_code 1 = .ok (.getfield 19, 3) := by decide +kernel
theorem d_D_about_4 : decode prog_1_method_6_code 4 = .ok (.iload_n 1, 1) := by decide +kernel
theorem d_D_about_5 : decode prog_1_method_6_code 5 = .ok (.invokevirtual 67, 3) := by decide +kernel
theorem d_D_about_8 : decode prog_1_method_6_code 8 = .ok (.ifCond .ne 5, 3) := by decide +kernel
theorem d_D_about_11 : decode prog_1_method_6_code 11 = .ok (.iconst (-1), 1) := by decide +kernel
theorem d_D_about_12 : decode prog_1_method_6_code 12 = .ok (.ireturn, 1) := by decide +kernel
theorem d_D_about_13 : decode prog_1_method_6_code 13 = .ok (.aload_n 0, 1) := by decide +kernel
theorem d_D_about_14 : decode prog_1_method_6_code 14 = .ok (.aload_n 0, 1) := by decide +kernel
theorem d_D_about_15 : decode prog_1_method_6_code 15 = .ok (.getfield 19, 3) := by decide +kernel
theorem d_D_about_18 : decode prog_1_method_6_code 18 = .ok (.iload_n 1, 1) := by decide +kernel
theorem d_D_about_19 : decode prog_1_method_6_code 19 = .ok (.invokevirtual 68, 3) := by decide +kernel
theorem d_D_about_22 : decode prog_1_method_6_code 22 = .ok (.aload_n 0, 1) := by decide +kernel
theorem d_D_about_23 : decode prog_1_method_6_code 23 = .ok (.getfield 19, 3) := by decide +kernel
theorem d_D_about_26 : decode prog_1_method_6_code 26 = .ok (.iload_n 1, 1) := by decide +kernel
theorem d_D_about_27 : decode prog_1_method_6_code 27 = .ok (.invokevirtual 71, 3) := by decide +kernel
theorem d_D_about_30 : decode prog_1_method_6_code 30 = .ok (.iload_n 2, 1) := by decide +kernel
theorem d_D_about_31 : decode prog_1_method_6_code 31 = .ok (.invokevirtual 77, 3) := by decide +kernel
theorem d_D_about_34 : decode prog_1_method_6_code 34 = .ok (.ireturn, 1) := by decide +kernel
theorem d_D_describe_0 : decode prog_1_method_25_code 0 = .ok (.iload 4, 2) := by decide +kernel
theorem d_D_describe_2 : decode prog_1_method_25_code 2 = .ok (.tableswitch 54 0 2 #[26, 28, 41], 26) := by decide +kernel
theorem d_D_describe_28 : decode prog_1_method_25_code 28 = .ok (.iload_n 1, 1) := by decide +kernel
theorem d_D_describe_29 : decode prog_1_method_25_code 29 = .ok (.ireturn, 1) := by decide +kernel
theorem d_D_describe_30 : decode prog_1_method_25_code 30 = .ok (.lload_n 2, 1) := by decide +kernel
theorem d_D_describe_31 : decode prog_1_method_25_code 31 = .ok (.invokestatic 165, 3) := by decide +kernel
theorem d_D_describe_34 : decode prog_1_method_25_code 34 = .ok (.ifCond .eq 7, 3) := by decide +kernel
theorem d_D_describe_37 : decode prog_1_method_25_code 37 = .ok (.iconst 1, 1) := by decide +kernel
theorem d_D_describe_38 : decode prog_1_method_25_code 38 = .ok (.goto 4, 3) := by decide +kernel
theorem d_D_describe_41 : decode prog_1_method_25_code 41 = .ok (.iconst 0, 1) := by decide +kernel
theorem d_D_describe_42 : decode prog_1_method_25_code 42 = .ok (.ireturn, 1) := by decide +kernel
theorem d_D_describe_43 : decode prog_1_method_25_code 43 = .ok (.aload_n 0, 1) := by decide +kernel
theorem d_D_describe_44 : decode prog_1_method_25_code 44 = .ok (.getfield 12, 3) := by decide +kernel
theorem d_D_describe_47 : decode prog_1_method_25_code 47 = .ok (.iload_n 1, 1) := by decide +kernel
theorem d_D_describe_48 : decode prog_1_method_25_code 48 = .ok (.lload_n 2, 1) := by decide +kernel
theorem d_D_describe_49 : decode prog_1_method_25_code 49 = .ok (.invokevirtual 81, 3) := by decide +kernel
theorem d_D_describe_52 : decode prog_1_method_25_code 52 = .ok (.invokestatic 169, 3) := by decide +kernel
theorem d_D_describe_55 : decode prog_1_method_25_code 55 = .ok (.ireturn, 1) := by decide +kernel
theorem d_D_describe_56 : decode prog_1_method_25_code 56 = .ok (.iconst (-1), 1) := by decide +kernel
theorem d_D_describe_57 : decode prog_1_method_25_code 57 = .ok (.ireturn, 1) := by decide +kernel
theorem d_D_isWanted_0 : decode prog_1_method_37_code 0 = .ok (.lload_n 0, 1) := by decide +kernel
theorem d_D_isWanted_1 : decode prog_1_method_37_code 1 = .ok (.ldc2_w 217, 3) := by decide +kernel
theorem d_D_isWanted_4 : decode prog_1_method_37_code 4 = .ok (.land, 1) := by decide +kernel
theorem d_D_isWanted_5 : decode prog_1_method_37_code 5 = .ok (.lconst 0, 1) := by decide +kernel
theorem d_D_isWanted_6 : decode prog_1_method_37_code 6 = .ok (.lcmp, 1) := by decide +kernel
theorem d_D_isWanted_7 : decode prog_1_method_37_code 7 = .ok (.ifCond .ne 7, 3) := by decide +kernel
theorem d_D_isWanted_10 : decode prog_1_method_37_code 10 = .ok (.iconst 1, 1) := by decide +kernel
theorem d_D_isWanted_11 : decode prog_1_method_37_code 11 = .ok (.goto 4, 3) := by decide +kernel
theorem d_D_isWanted_14 : decode prog_1_method_37_code 14 = .ok (.iconst 0, 1) := by decide +kernel
theorem d_D_isWanted_15 : decode prog_1_method_37_code 15 = .ok (.ireturn, 1) := by decide +kernel
theorem d_N_setOf_0 : decode prog_3_method_8_code 0 = .ok (.lload_n 2, 1) := by decide +kernel
theorem d_N_setOf_1 : decode prog_3_method_8_code 1 = .ok (.invokestatic 35, 3) := by decide +kernel
theorem d_N_setOf_4 : decode prog_3_method_8_code 4 = .ok (.ifCond .eq 7, 3) := by decide +kernel
theorem d_N_setOf_7 : decode prog_3_method_8_code 7 = .ok (.lload_n 2, 1) := by decide +kernel
theorem d_N_setOf_8 : decode prog_3_method_8_code 8 = .ok (.goto 10, 3) := by decide +kernel
theorem d_N_setOf_11 : decode prog_3_method_8_code 11 = .ok (.aload_n 0, 1) := by decide +kernel
theorem d_N_setOf_12 : decode prog_3_method_8_code 12 = .ok (.iload_n 1, 1) := by decide +kernel
theorem d_N_setOf_13 : decode prog_3_method_8_code 13 = .ok (.invokevirtual 21, 3) := by decide +kernel
theorem d_N_setOf_16 : decode prog_3_method_8_code 16 = .ok (.lload_n 2, 1) := by decide +kernel
theorem d_N_setOf_17 : decode prog_3_method_8_code 17 = .ok (.lxor, 1) := by decide +kernel
theorem d_N_setOf_18 : decode prog_3_method_8_code 18 = .ok (.lreturn, 1) := by decide +kernel
theorem d_JL_bitCount_0 : decode prog_10_method_50_code 0 = .ok (.lload_n 0, 1) := by decide +kernel
theorem d_JL_bitCount_1 : decode prog_10_method_50_code 1 = .ok (.lload_n 0, 1) := by decide +kernel
theorem d_JL_bitCount_2 : decode prog_10_method_50_code 2 = .ok (.iconst 1, 1) := by decide +kernel
theorem d_JL_bitCount_3 : decode prog_10_method_50_code 3 = .ok (.lushr, 1) := by decide +kernel
theorem d_JL_bitCount_4 : decode prog_10_method_50_code 4 = .ok (.ldc2_w 314, 3) := by decide +kernel
theorem d_JL_bitCount_7 : decode prog_10_method_50_code 7 = .ok (.land, 1) := by decide +kernel
theorem d_JL_bitCount_8 : decode prog_10_method_50_code 8 = .ok (.lsub, 1) := by decide +kernel
theorem d_JL_bitCount_9 : decode prog_10_method_50_code 9 = .ok (.lstore_n 0, 1) := by decide +kernel
theorem d_JL_bitCount_10 : decode prog_10_method_50_code 10 = .ok (.lload_n 0, 1) := by decide +kernel
theorem d_JL_bitCount_11 : decode prog_10_method_50_code 11 = .ok (.ldc2_w 316, 3) := by decide +kernel
theorem d_JL_bitCount_14 : decode prog_10_method_50_code 14 = .ok (.land, 1) := by decide +kernel
theorem d_JL_bitCount_15 : decode prog_10_method_50_code 15 = .ok (.lload_n 0, 1) := by decide +kernel
theorem d_JL_bitCount_16 : decode prog_10_method_50_code 16 = .ok (.iconst 2, 1) := by decide +kernel
theorem d_JL_bitCount_17 : decode prog_10_method_50_code 17 = .ok (.lushr, 1) := by decide +kernel
theorem d_JL_bitCount_18 : decode prog_10_method_50_code 18 = .ok (.ldc2_w 316, 3) := by decide +kernel
theorem d_JL_bitCount_21 : decode prog_10_method_50_code 21 = .ok (.land, 1) := by decide +kernel
theorem d_JL_bitCount_22 : decode prog_10_method_50_code 22 = .ok (.ladd, 1) := by decide +kernel
theorem d_JL_bitCount_23 : decode prog_10_method_50_code 23 = .ok (.lstore_n 0, 1) := by decide +kernel
theorem d_JL_bitCount_24 : decode prog_10_method_50_code 24 = .ok (.lload_n 0, 1) := by decide +kernel
theorem d_JL_bitCount_25 : decode prog_10_method_50_code 25 = .ok (.lload_n 0, 1) := by decide +kernel
theorem d_JL_bitCount_26 : decode prog_10_method_50_code 26 = .ok (.iconst 4, 1) := by decide +kernel
theorem d_JL_bitCount_27 : decode prog_10_method_50_code 27 = .ok (.lushr, 1) := by decide +kernel
theorem d_JL_bitCount_28 : decode prog_10_method_50_code 28 = .ok (.ladd, 1) := by decide +kernel
theorem d_JL_bitCount_29 : decode prog_10_method_50_code 29 = .ok (.ldc2_w 318, 3) := by decide +kernel
theorem d_JL_bitCount_32 : decode prog_10_method_50_code 32 = .ok (.land, 1) := by decide +kernel
theorem d_JL_bitCount_33 : decode prog_10_method_50_code 33 = .ok (.lstore_n 0, 1) := by decide +kernel
theorem d_JL_bitCount_34 : decode prog_10_method_50_code 34 = .ok (.lload_n 0, 1) := by decide +kernel
theorem d_JL_bitCount_35 : decode prog_10_method_50_code 35 = .ok (.lload_n 0, 1) := by decide +kernel
theorem d_JL_bitCount_36 : decode prog_10_method_50_code 36 = .ok (.bipush 8, 2) := by decide +kernel
theorem d_JL_bitCount_38 : decode prog_10_method_50_code 38 = .ok (.lushr, 1) := by decide +kernel
theorem d_JL_bitCount_39 : decode prog_10_method_50_code 39 = .ok (.ladd, 1) := by decide +kernel
theorem d_JL_bitCount_40 : decode prog_10_method_50_code 40 = .ok (.lstore_n 0, 1) := by decide +kernel
theorem d_JL_bitCount_41 : decode prog_10_method_50_code 41 = .ok (.lload_n 0, 1) := by decide +kernel
theorem d_JL_bitCount_42 : decode prog_10_method_50_code 42 = .ok (.lload_n 0, 1) := by decide +kernel
theorem d_JL_bitCount_43 : decode prog_10_method_50_code 43 = .ok (.bipush 16, 2) := by decide +kernel
theorem d_JL_bitCount_45 : decode prog_10_method_50_code 45 = .ok (.lushr, 1) := by decide +kernel
theorem d_JL_bitCount_46 : decode prog_10_method_50_code 46 = .ok (.ladd, 1) := by decide +kernel
theorem d_JL_bitCount_47 : decode prog_10_method_50_code 47 = .ok (.lstore_n 0, 1) := by decide +kernel
theorem d_JL_bitCount_48 : decode prog_10_method_50_code 48 = .ok (.lload_n 0, 1) := by decide +kernel
theorem d_JL_bitCount_49 : decode prog_10_method_50_code 49 = .ok (.lload_n 0, 1) := by decide +kernel
theorem d_JL_bitCount_50 : decode prog_10_method_50_code 50 = .ok (.bipush 32, 2) := by decide +kernel
theorem d_JL_bitCount_52 : decode prog_10_method_50_code 52 = .ok (.lushr, 1) := by decide +kernel
theorem d_JL_bitCount_53 : decode prog_10_method_50_code 53 = .ok (.ladd, 1) := by decide +kernel
theorem d_JL_bitCount_54 : decode prog_10_method_50_code 54 = .ok (.lstore_n 0, 1) := by decide +kernel
theorem d_JL_bitCount_55 : decode prog_10_method_50_code 55 = .ok (.lload_n 0, 1) := by decide +kernel
theorem d_JL_bitCount_56 : decode prog_10_method_50_code 56 = .ok (.l2i, 1) := by decide +kernel
theorem d_JL_bitCount_57 : decode prog_10_method_50_code 57 = .ok (.bipush 127, 2) := by decide +kernel
theorem d_JL_bitCount_59 : decode prog_10_method_50_code 59 = .ok (.iand, 1) := by decide +kernel
theorem d_JL_bitCount_60 : decode prog_10_method_50_code 60 = .ok (.ireturn, 1) := by decide +kernel
theorem d_D_set_0 : decode prog_1_method_7_code 0 = .ok (.aload_n 0, 1) := by decide +kernel
theorem d_D_set_1 : decode prog_1_method_7_code 1 = .ok (.getfield 19, 3) := by decide +kernel
theorem d_D_set_4 : decode prog_1_method_7_code 4 = .ok (.iload_n 1, 1) := by decide +kernel
theorem d_D_set_5 : decode prog_1_method_7_code 5 = .ok (.invokevirtual 67, 3) := by decide +kernel
theorem d_D_set_8 : decode prog_1_method_7_code 8 = .ok (.ifCond .ne 5, 3) := by decide +kernel
theorem d_D_set_11 : decode prog_1_method_7_code 11 = .ok (.lconst 0, 1) := by decide +kernel
theorem d_D_set_12 : decode prog_1_method_7_code 12 = .ok (.lreturn, 1) := by decide +kernel
theorem d_D_set_13 : decode prog_1_method_7_code 13 = .ok (.aload_n 0, 1) := by decide +kernel
theorem d_D_set_14 : decode prog_1_method_7_code 14 = .ok (.getfield 12, 3) := by decide +kernel
theorem d_D_set_17 : decode prog_1_method_7_code 17 = .ok (.aload_n 0, 1) := by decide +kernel
theorem d_D_set_18 : decode prog_1_method_7_code 18 = .ok (.getfield 19, 3) := by decide +kernel
theorem d_D_set_21 : decode prog_1_method_7_code 21 = .ok (.iload_n 1, 1) := by decide +kernel
theorem d_D_set_22 : decode prog_1_method_7_code 22 = .ok (.invokevirtual 68, 3) := by decide +kernel
theorem d_D_set_25 : decode prog_1_method_7_code 25 = .ok (.aload_n 0, 1) := by decide +kernel
theorem d_D_set_26 : decode prog_1_method_7_code 26 = .ok (.getfield 19, 3) := by decide +kernel
theorem d_D_set_29 : decode prog_1_method_7_code 29 = .ok (.iload_n 1, 1) := by decide +kernel
theorem d_D_set_30 : decode prog_1_method_7_code 30 = .ok (.invokevirtual 71, 3) := by decide +kernel
theorem d_D_set_33 : decode prog_1_method_7_code 33 = .ok (.invokevirtual 81, 3) := by decide +kernel
theorem d_D_set_36 : decode prog_1_method_7_code 36 = .ok (.lreturn, 1) := by decide +kernel
theorem d_D_needs_0 : decode prog_1_method_8_code 0 = .ok (.aload_n 0, 1) := by decide +kernel
theorem d_D_needs_1 : decode prog_1_method_8_code 1 = .ok (.getfield 12, 3) := by decide +kernel
theorem d_D_needs_4 : decode prog_1_method_8_code 4 = .ok (.iload_n 1, 1) := by decide +kernel
theorem d_D_needs_5 : decode prog_1_method_8_code 5 = .ok (.iload_n 2, 1) := by decide +kernel
theorem d_D_needs_6 : decode prog_1_method_8_code 6 = .ok (.invokevirtual 85, 3) := by decide +kernel
theorem d_D_needs_9 : decode prog_1_method_8_code 9 = .ok (.ifCond .eq 19, 3) := by decide +kernel
theorem d_D_needs_12 : decode prog_1_method_8_code 12 = .ok (.aload_n 0, 1) := by decide +kernel
theorem d_D_needs_13 : decode prog_1_method_8_code 13 = .ok (.getfield 12, 3) := by decide +kernel
theorem d_D_needs_16 : decode prog_1_method_8_code 16 = .ok (.iload_n 3, 1) := by decide +kernel
theorem d_D_needs_17 : decode prog_1_method_8_code 17 = .ok (.invokevirtual 56, 3) := by decide +kernel
theorem d_D_needs_20 : decode prog_1_method_8_code 20 = .ok (.ifCond .eq 8, 3) := by decide +kernel
theorem d_D_needs_23 : decode prog_1_method_8_code 23 = .ok (.iload_n 3, 1) := by decide +kernel
theorem d_D_needs_24 : decode prog_1_method_8_code 24 = .ok (.iload_n 1, 1) := by decide +kernel
theorem d_D_needs_25 : decode prog_1_method_8_code 25 = .ok (.if_icmp .ne 5, 3) := by decide +kernel
theorem d_D_needs_28 : decode prog_1_method_8_code 28 = .ok (.iconst 0, 1) := by decide +kernel
theorem d_D_needs_29 : decode prog_1_method_8_code 29 = .ok (.ireturn, 1) := by decide +kernel
theorem d_D_needs_30 : decode prog_1_method_8_code 30 = .ok (.iload 6, 2) := by decide +kernel
theorem d_D_needs_32 : decode prog_1_method_8_code 32 = .ok (.ifCond .lt 10, 3) := by decide +kernel
theorem d_D_needs_35 : decode prog_1_method_8_code 35 = .ok (.iload 6, 2) := by decide +kernel
theorem d_D_needs_37 : decode prog_1_method_8_code 37 = .ok (.bipush 8, 2) := by decide +kernel
theorem d_D_needs_39 : decode prog_1_method_8_code 39 = .ok (.if_icmp .lt 5, 3) := by decide +kernel
theorem d_D_needs_42 : decode prog_1_method_8_code 42 = .ok (.iconst 0, 1) := by decide +kernel
theorem d_D_needs_43 : decode prog_1_method_8_code 43 = .ok (.ireturn, 1) := by decide +kernel
theorem d_D_needs_44 : decode prog_1_method_8_code 44 = .ok (.aload_n 0, 1) := by decide +kernel
theorem d_D_needs_45 : decode prog_1_method_8_code 45 = .ok (.getfield 26, 3) := by decide +kernel
theorem d_D_needs_48 : decode prog_1_method_8_code 48 = .ok (.iload_n 1, 1) := by decide +kernel
theorem d_D_needs_49 : decode prog_1_method_8_code 49 = .ok (.iload_n 2, 1) := by decide +kernel
theorem d_D_needs_50 : decode prog_1_method_8_code 50 = .ok (.iload_n 3, 1) := by decide +kernel
theorem d_D_needs_51 : decode prog_1_method_8_code 51 = .ok (.aload_n 0, 1) := by decide +kernel
theorem d_D_needs_52 : decode prog_1_method_8_code 52 = .ok (.getfield 12, 3) := by decide +kernel
theorem d_D_needs_55 : decode prog_1_method_8_code 55 = .ok (.iload_n 3, 1) := by decide +kernel
theorem d_D_needs_56 : decode prog_1_method_8_code 56 = .ok (.lload 4, 2) := by decide +kernel
theorem d_D_needs_58 : decode prog_1_method_8_code 58 = .ok (.iconst 1, 1) := by decide +kernel
theorem d_D_needs_59 : decode prog_1_method_8_code 59 = .ok (.invokevirtual 60, 3) := by decide +kernel
theorem d_D_needs_62 : decode prog_1_method_8_code 62 = .ok (.iload 6, 2) := by decide +kernel
theorem d_D_needs_64 : decode prog_1_method_8_code 64 = .ok (.invokevirtual 89, 3) := by decide +kernel
theorem d_D_needs_67 : decode prog_1_method_8_code 67 = .ok (.ireturn, 1) := by decide +kernel
theorem d_N_hasVersion_0 : decode prog_3_method_5_code 0 = .ok (.aload_n 0, 1) := by decide +kernel
theorem d_N_hasVersion_1 : decode prog_3_method_5_code 1 = .ok (.iload_n 1, 1) := by decide +kernel
theorem d_N_hasVersion_2 : decode prog_3_method_5_code 2 = .ok (.invokevirtual 21, 3) := by decide +kernel
theorem d_N_hasVersion_5 : decode prog_3_method_5_code 5 = .ok (.iload_n 2, 1) := by decide +kernel
theorem d_N_hasVersion_6 : decode prog_3_method_5_code 6 = .ok (.invokestatic 25, 3) := by decide +kernel
theorem d_N_hasVersion_9 : decode prog_3_method_5_code 9 = .ok (.ireturn, 1) := by decide +kernel
theorem d_D_hasVersion_0 : decode prog_1_method_38_code 0 = .ok (.iload_n 2, 1) := by decide +kernel
theorem d_D_hasVersion_1 : decode prog_1_method_38_code 1 = .ok (.ifCond .lt 23, 3) := by decide +kernel
theorem d_D_hasVersion_4 : decode prog_1_method_38_code 4 = .ok (.iload_n 2, 1) := by decide +kernel
theorem d_D_hasVersion_5 : decode prog_1_method_38_code 5 = .ok (.bipush 48, 2) := by decide +kernel
theorem d_D_hasVersion_7 : decode prog_1_method_38_code 7 = .ok (.if_icmp .ge 17, 3) := by decide +kernel
theorem d_D_hasVersion_10 : decode prog_1_method_38_code 10 = .ok (.lload_n 0, 1) := by decide +kernel
theorem d_D_hasVersion_11 : decode prog_1_method_38_code 11 = .ok (.iload_n 2, 1) := by decide +kernel
theorem d_D_hasVersion_12 : decode prog_1_method_38_code 12 = .ok (.lushr, 1) := by decide +kernel
theorem d_D_hasVersion_13 : decode prog_1_method_38_code 13 = .ok (.lconst 1, 1) := by decide +kernel
theorem d_D_hasVersion_14 : decode prog_1_method_38_code 14 = .ok (.land, 1) := by decide +kernel
theorem d_D_hasVersion_15 : decode prog_1_method_38_code 15 = .ok (.lconst 0, 1) := by decide +kernel
theorem d_D_hasVersion_16 : decode prog_1_method_38_code 16 = .ok (.lcmp, 1) := by decide +kernel
theorem d_D_hasVersion_17 : decode prog_1_method_38_code 17 = .ok (.ifCond .eq 7, 3) := by decide +kernel
theorem d_D_hasVersion_20 : decode prog_1_method_38_code 20 = .ok (.iconst 1, 1) := by decide +kernel
theorem d_D_hasVersion_21 : decode prog_1_method_38_code 21 = .ok (.goto 4, 3) := by decide +kernel
theorem d_D_hasVersion_24 : decode prog_1_method_38_code 24 = .ok (.iconst 0, 1) := by decide +kernel
theorem d_D_hasVersion_25 : decode prog_1_method_38_code 25 = .ok (.ireturn, 1) := by decide +kernel
theorem d_R_add_0 : decode prog_4_method_3_code 0 = .ok (.aload_n 0, 1) := by decide +kernel
theorem d_R_add_1 : decode prog_4_method_3_code 1 = .ok (.getfield 28, 3) := by decide +kernel
theorem d_R_add_4 : decode prog_4_method_3_code 4 = .ok (.sipush 400, 3) := by decide +kernel
theorem d_R_add_7 : decode prog_4_method_3_code 7 = .ok (.if_icmp .lt 5, 3) := by decide +kernel
theorem d_R_add_10 : decode prog_4_method_3_code 10 = .ok (.iconst 0, 1) := by decide +kernel
theorem d_R_add_11 : decode prog_4_method_3_code 11 = .ok (.ireturn, 1) := by decide +kernel
theorem d_R_add_12 : decode prog_4_method_3_code 12 = .ok (.aload_n 0, 1) := by decide +kernel
theorem d_R_add_13 : decode prog_4_method_3_code 13 = .ok (.getfield 9, 3) := by decide +kernel
theorem d_R_add_16 : decode prog_4_method_3_code 16 = .ok (.aload_n 0, 1) := by decide +kernel
theorem d_R_add_17 : decode prog_4_method_3_code 17 = .ok (.getfield 28, 3) := by decide +kernel
theorem d_R_add_20 : decode prog_4_method_3_code 20 = .ok (.iload_n 1, 1) := by decide +kernel
theorem d_R_add_21 : decode prog_4_method_3_code 21 = .ok (.iastore, 1) := by decide +kernel
theorem d_R_add_22 : decode prog_4_method_3_code 22 = .ok (.aload_n 0, 1) := by decide +kernel
theorem d_R_add_23 : decode prog_4_method_3_code 23 = .ok (.getfield 15, 3) := by decide +kernel
theorem d_R_add_26 : decode prog_4_method_3_code 26 = .ok (.aload_n 0, 1) := by decide +kernel
theorem d_R_add_27 : decode prog_4_method_3_code 27 = .ok (.getfield 28, 3) := by decide +kernel
theorem d_R_add_30 : decode prog_4_method_3_code 30 = .ok (.iload_n 2, 1) := by decide +kernel
theorem d_R_add_31 : decode prog_4_method_3_code 31 = .ok (.iastore, 1) := by decide +kernel
theorem d_R_add_32 : decode prog_4_method_3_code 32 = .ok (.aload_n 0, 1) := by decide +kernel
theorem d_R_add_33 : decode prog_4_method_3_code 33 = .ok (.getfield 18, 3) := by decide +kernel
theorem d_R_add_36 : decode prog_4_method_3_code 36 = .ok (.aload_n 0, 1) := by decide +kernel
theorem d_R_add_37 : decode prog_4_method_3_code 37 = .ok (.getfield 28, 3) := by decide +kernel
theorem d_R_add_40 : decode prog_4_method_3_code 40 = .ok (.iload_n 3, 1) := by decide +kernel
theorem d_R_add_41 : decode prog_4_method_3_code 41 = .ok (.iastore, 1) := by decide +kernel
theorem d_R_add_42 : decode prog_4_method_3_code 42 = .ok (.aload_n 0, 1) := by decide +kernel
theorem d_R_add_43 : decode prog_4_method_3_code 43 = .ok (.getfield 21, 3) := by decide +kernel
theorem d_R_add_46 : decode prog_4_method_3_code 46 = .ok (.aload_n 0, 1) := by decide +kernel
theorem d_R_add_47 : decode prog_4_method_3_code 47 = .ok (.getfield 28, 3) := by decide +kernel
theorem d_R_add_50 : decode prog_4_method_3_code 50 = .ok (.lload 4, 2) := by decide +kernel
theorem d_R_add_52 : decode prog_4_method_3_code 52 = .ok (.lastore, 1) := by decide +kernel
theorem d_R_add_53 : decode prog_4_method_3_code 53 = .ok (.aload_n 0, 1) := by decide +kernel
theorem d_R_add_54 : decode prog_4_method_3_code 54 = .ok (.getfield 25, 3) := by decide +kernel
theorem d_R_add_57 : decode prog_4_method_3_code 57 = .ok (.aload_n 0, 1) := by decide +kernel
theorem d_R_add_58 : decode prog_4_method_3_code 58 = .ok (.getfield 28, 3) := by decide +kernel
theorem d_R_add_61 : decode prog_4_method_3_code 61 = .ok (.iload 6, 2) := by decide +kernel
theorem d_R_add_63 : decode prog_4_method_3_code 63 = .ok (.iastore, 1) := by decide +kernel
theorem d_R_add_64 : decode prog_4_method_3_code 64 = .ok (.aload_n 0, 1) := by decide +kernel
theorem d_R_add_65 : decode prog_4_method_3_code 65 = .ok (.dup, 1) := by decide +kernel
theorem d_R_add_66 : decode prog_4_method_3_code 66 = .ok (.getfield 28, 3) := by decide +kernel
theorem d_R_add_69 : decode prog_4_method_3_code 69 = .ok (.iconst 1, 1) := by decide +kernel
theorem d_R_add_70 : decode prog_4_method_3_code 70 = .ok (.iadd, 1) := by decide +kernel
theorem d_R_add_71 : decode prog_4_method_3_code 71 = .ok (.putfield 28, 3) := by decide +kernel
theorem d_R_add_74 : decode prog_4_method_3_code 74 = .ok (.iconst 1, 1) := by decide +kernel
theorem d_R_add_75 : decode prog_4_method_3_code 75 = .ok (.ireturn, 1) := by decide +kernel
theorem d_D_derive_0 : decode prog_1_method_9_code 0 = .ok (.aload_n 0, 1) := by decide +kernel
theorem d_D_derive_1 : decode prog_1_method_9_code 1 = .ok (.getfield 12, 3) := by decide +kernel
theorem d_D_derive_4 : decode prog_1_method_9_code 4 = .ok (.iload_n 1, 1) := by decide +kernel
theorem d_D_derive_5 : decode prog_1_method_9_code 5 = .ok (.iload_n 2, 1) := by decide +kernel
theorem d_D_derive_6 : decode prog_1_method_9_code 6 = .ok (.invokevirtual 85, 3) := by decide +kernel
theorem d_D_derive_9 : decode prog_1_method_9_code 9 = .ok (.ifCond .ne 5, 3) := by decide +kernel
theorem d_D_derive_12 : decode prog_1_method_9_code 12 = .ok (.iconst (-1), 1) := by decide +kernel
theorem d_D_derive_13 : decode prog_1_method_9_code 13 = .ok (.ireturn, 1) := by decide +kernel
theorem d_D_derive_14 : decode prog_1_method_9_code 14 = .ok (.aload_n 0, 1) := by decide +kernel
theorem d_D_derive_15 : decode prog_1_method_9_code 15 = .ok (.getfield 33, 3) := by decide +kernel
theorem d_D_derive_18 : decode prog_1_method_9_code 18 = .ok (.invokevirtual 92, 3) := by decide +kernel
theorem d_D_derive_21 : decode prog_1_method_9_code 21 = .ok (.istore_n 3, 1) := by decide +kernel
theorem d_D_derive_22 : decode prog_1_method_9_code 22 = .ok (.iconst 0, 1) := by decide +kernel
theorem d_D_derive_23 : decode prog_1_method_9_code 23 = .ok (.istore 4, 2) := by decide +kernel
theorem d_D_derive_25 : decode prog_1_method_9_code 25 = .ok (.iload 4, 2) := by decide +kernel
theorem d_D_derive_27 : decode prog_1_method_9_code 27 = .ok (.aload_n 0, 1) := by decide +kernel
theorem d_D_derive_28 : decode prog_1_method_9_code 28 = .ok (.getfield 26, 3) := by decide +kernel
theorem d_D_derive_31 : decode prog_1_method_9_code 31 = .ok (.invokevirtual 96, 3) := by decide +kernel
theorem d_D_derive_34 : decode prog_1_method_9_code 34 = .ok (.if_icmp .ge 51, 3) := by decide +kernel
theorem d_D_derive_37 : decode prog_1_method_9_code 37 = .ok (.aload_n 0, 1) := by decide +kernel
theorem d_D_derive_38 : decode prog_1_method_9_code 38 = .ok (.getfield 26, 3) := by decide +kernel
theorem d_D_derive_41 : decode prog_1_method_9_code 41 = .ok (.iload 4, 2) := by decide +kernel
theorem d_D_derive_43 : decode prog_1_method_9_code 43 = .ok (.iload_n 1, 1) := by decide +kernel
theorem d_D_derive_44 : decode prog_1_method_9_code 44 = .ok (.iload_n 2, 1) := by decide +kernel
theorem d_D_derive_45 : decode prog_1_method_9_code 45 = .ok (.invokevirtual 97, 3) := by decide +kernel
theorem d_D_derive_48 : decode prog_1_method_9_code 48 = .ok (.ifCond .eq 31, 3) := by decide +kernel
theorem d_D_derive_51 : decode prog_1_method_9_code 51 = .ok (.aload_n 0, 1) := by decide +kernel
theorem d_D_derive_52 : decode prog_1_method_9_code 52 = .ok (.iload 4, 2) := by decide +kernel
theorem d_D_derive_54 : decode prog_1_method_9_code 54 = .ok (.invokevirtual 101, 3) := by decide +kernel
theorem d_D_derive_57 : decode prog_1_method_9_code 57 = .ok (.ifCond .ne 22, 3) := by decide +kernel
theorem d_D_derive_60 : decode prog_1_method_9_code 60 = .ok (.aload_n 0, 1) := by decide +kernel
theorem d_D_derive_61 : decode prog_1_method_9_code 61 = .ok (.iload 4, 2) := by decide +kernel
theorem d_D_derive_63 : decode prog_1_method_9_code 63 = .ok (.invokevirtual 104, 3) := by decide +kernel
theorem d_D_derive_66 : decode prog_1_method_9_code 66 = .ok (.ifCond .ne 13, 3) := by decide +kernel
theorem d_D_derive_69 : decode prog_1_method_9_code 69 = .ok (.aload_n 0, 1) := by decide +kernel
theorem d_D_derive_70 : decode prog_1_method_9_code 70 = .ok (.getfield 33, 3) := by decide +kernel
theorem d_D_derive_73 : decode prog_1_method_9_code 73 = .ok (.iload_n 3, 1) := by decide +kernel
theorem d_D_derive_74 : decode prog_1_method_9_code 74 = .ok (.invokevirtual 107, 3) := by decide +kernel
theorem d_D_derive_77 : decode prog_1_method_9_code 77 = .ok (.iconst (-1), 1) := by decide +kernel
theorem d_D_derive_78 : decode prog_1_method_9_code 78 = .ok (.ireturn, 1) := by decide +kernel
theorem d_D_derive_79 : decode prog_1_method_9_code 79 = .ok (.iinc 4 1, 3) := by decide +kernel
theorem d_D_derive_82 : decode prog_1_method_9_code 82 = .ok (.goto (-57), 3) := by decide +kernel
theorem d_D_derive_85 : decode prog_1_method_9_code 85 = .ok (.aload_n 0, 1) := by decide +kernel
theorem d_D_derive_86 : decode prog_1_method_9_code 86 = .ok (.getfield 33, 3) := by decide +kernel
theorem d_D_derive_89 : decode prog_1_method_9_code 89 = .ok (.invokevirtual 92, 3) := by decide +kernel
theorem d_D_derive_92 : decode prog_1_method_9_code 92 = .ok (.iload_n 3, 1) := by decide +kernel
theorem d_D_derive_93 : decode prog_1_method_9_code 93 = .ok (.isub, 1) := by decide +kernel
theorem d_D_derive_94 : decode prog_1_method_9_code 94 = .ok (.ireturn, 1) := by decide +kernel
theorem d_C_size_0 : decode prog_2_method_2_code 0 = .ok (.aload_n 0, 1) := by decide +kernel
theorem d_C_size_1 : decode prog_2_method_2_code 1 = .ok (.getfield 25, 3) := by decide +kernel
theorem d_C_size_4 : decode prog_2_method_2_code 4 = .ok (.ireturn, 1) := by decide +kernel
theorem d_R_size_0 : decode prog_4_method_2_code 0 = .ok (.aload_n 0, 1) := by decide +kernel
theorem d_R_size_1 : decode prog_4_method_2_code 1 = .ok (.getfield 28, 3) := by decide +kernel
theorem d_R_size_4 : decode prog_4_method_2_code 4 = .ok (.ireturn, 1) := by decide +kernel
theorem d_R_isOf_0 : decode prog_4_method_5_code 0 = .ok (.aload_n 0, 1) := by decide +kernel
theorem d_R_isOf_1 : decode prog_4_method_5_code 1 = .ok (.iload_n 1, 1) := by decide +kernel
theorem d_R_isOf_2 : decode prog_4_method_5_code 2 = .ok (.invokevirtual 32, 3) := by decide +kernel
theorem d_R_isOf_5 : decode prog_4_method_5_code 5 = .ok (.ifCond .eq 27, 3) := by decide +kernel
theorem d_R_isOf_8 : decode prog_4_method_5_code 8 = .ok (.aload_n 0, 1) := by decide +kernel
theorem d_R_isOf_9 : decode prog_4_method_5_code 9 = .ok (.getfield 9, 3) := by decide +kernel
theorem d_R_isOf_12 : decode prog_4_method_5_code 12 = .ok (.iload_n 1, 1) := by decide +kernel
theorem d_R_isOf_13 : decode prog_4_method_5_code 13 = .ok (.iaload, 1) := by decide +kernel
theorem d_R_isOf_14 : decode prog_4_method_5_code 14 = .ok (.iload_n 2, 1) := by decide +kernel
theorem d_R_isOf_15 : decode prog_4_method_5_code 15 = .ok (.if_icmp .ne 17, 3) := by decide +kernel
theorem d_R_isOf_18 : decode prog_4_method_5_code 18 = .ok (.aload_n 0, 1) := by decide +kernel
theorem d_R_isOf_19 : decode prog_4_method_5_code 19 = .ok (.getfield 15, 3) := by decide +kernel
theorem d_R_isOf_22 : decode prog_4_method_5_code 22 = .ok (.iload_n 1, 1) := by decide +kernel
theorem d_R_isOf_23 : decode prog_4_method_5_code 23 = .ok (.iaload, 1) := by decide +kernel
theorem d_R_isOf_24 : decode prog_4_method_5_code 24 = .ok (.iload_n 3, 1) := by decide +kernel
theorem d_R_isOf_25 : decode prog_4_method_5_code 25 = .ok (.if_icmp .ne 7, 3) := by decide +kernel
theorem d_R_isOf_28 : decode prog_4_method_5_code 28 = .ok (.iconst 1, 1) := by decide +kernel
theorem d_R_isOf_29 : decode prog_4_method_5_code 29 = .ok (.goto 4, 3) := by decide +kernel
theorem d_R_isOf_32 : decode prog_4_method_5_code 32 = .ok (.iconst 0, 1) := by decide +kernel
theorem d_R_isOf_33 : decode prog_4_method_5_code 33 = .ok (.ireturn, 1) := by decide +kernel
theorem d_R_has_0 : decode prog_4_method_4_code 0 = .ok (.iload_n 1, 1) := by decide +kernel
theorem d_R_has_1 : decode prog_4_method_4_code 1 = .ok (.ifCond .lt 15, 3) := by decide +kernel
theorem d_R_has_4 : decode prog_4_method_4_code 4 = .ok (.iload_n 1, 1) := by decide +kernel
theorem d_R_has_5 : decode prog_4_method_4_code 5 = .ok (.aload_n 0, 1) := by decide +kernel
theorem d_R_has_6 : decode prog_4_method_4_code 6 = .ok (.getfield 28, 3) := by decide +kernel
theorem d_R_has_9 : decode prog_4_method_4_code 9 = .ok (.if_icmp .ge 7, 3) := by decide +kernel
theorem d_R_has_12 : decode prog_4_method_4_code 12 = .ok (.iconst 1, 1) := by decide +kernel
theorem d_R_has_13 : decode prog_4_method_4_code 13 = .ok (.goto 4, 3) := by decide +kernel
theorem d_R_has_16 : decode prog_4_method_4_code 16 = .ok (.iconst 0, 1) := by decide +kernel
theorem d_R_has_17 : decode prog_4_method_4_code 17 = .ok (.ireturn, 1) := by decide +kernel
theorem d_D_isDerived_0 : decode prog_1_method_26_code 0 = .ok (.aload_n 0, 1) := by decide +kernel
theorem d_D_isDerived_1 : decode prog_1_method_26_code 1 = .ok (.getfield 26, 3) := by decide +kernel
theorem d_D_isDerived_4 : decode prog_1_method_26_code 4 = .ok (.iload_n 1, 1) := by decide +kernel
theorem d_D_isDerived_5 : decode prog_1_method_26_code 5 = .ok (.invokevirtual 175, 3) := by decide +kernel
theorem d_D_isDerived_8 : decode prog_1_method_26_code 8 = .ok (.istore_n 2, 1) := by decide +kernel
theorem d_D_isDerived_9 : decode prog_1_method_26_code 9 = .ok (.iconst 0, 1) := by decide +kernel
theorem d_D_isDerived_10 : decode prog_1_method_26_code 10 = .ok (.istore_n 3, 1) := by decide +kernel
theorem d_D_isDerived_11 : decode prog_1_method_26_code 11 = .ok (.iload_n 3, 1) := by decide +kernel
theorem d_D_isDerived_12 : decode prog_1_method_26_code 12 = .ok (.aload_n 0, 1) := by decide +kernel
theorem d_D_isDerived_13 : decode prog_1_method_26_code 13 = .ok (.getfield 33, 3) := by decide +kernel
theorem d_D_isDerived_16 : decode prog_1_method_26_code 16 = .ok (.invokevirtual 92, 3) := by decide +kernel
theorem d_D_isDerived_19 : decode prog_1_method_26_code 19 = .ok (.if_icmp .ge 45, 3) := by decide +kernel
theorem d_D_isDerived_22 : decode prog_1_method_26_code 22 = .ok (.aload_n 0, 1) := by decide +kernel
theorem d_D_isDerived_23 : decode prog_1_method_26_code 23 = .ok (.getfield 26, 3) := by decide +kernel
theorem d_D_isDerived_26 : decode prog_1_method_26_code 26 = .ok (.aload_n 0, 1) := by decide +kernel
theorem d_D_isDerived_27 : decode prog_1_method_26_code 27 = .ok (.getfield 33, 3) := by decide +kernel
theorem d_D_isDerived_30 : decode prog_1_method_26_code 30 = .ok (.iload_n 3, 1) := by decide +kernel
theorem d_D_isDerived_31 : decode prog_1_method_26_code 31 = .ok (.invokevirtual 178, 3) := by decide +kernel
theorem d_D_isDerived_34 : decode prog_1_method_26_code 34 = .ok (.iload_n 1, 1) := by decide +kernel
theorem d_D_isDerived_35 : decode prog_1_method_26_code 35 = .ok (.invokevirtual 181, 3) := by decide +kernel
theorem d_D_isDerived_38 : decode prog_1_method_26_code 38 = .ok (.ifCond .eq 20, 3) := by decide +kernel
theorem d_D_isDerived_41 : decode prog_1_method_26_code 41 = .ok (.aload_n 0, 1) := by decide +kernel
theorem d_D_isDerived_42 : decode prog_1_method_26_code 42 = .ok (.getfield 33, 3) := by decide +kernel
theorem d_D_isDerived_45 : decode prog_1_method_26_code 45 = .ok (.iload_n 3, 1) := by decide +kernel
theorem d_D_isDerived_46 : decode prog_1_method_26_code 46 = .ok (.invokevirtual 184, 3) := by decide +kernel
theorem d_D_isDerived_49 : decode prog_1_method_26_code 49 = .ok (.iload_n 2, 1) := by decide +kernel
theorem d_D_isDerived_50 : decode prog_1_method_26_code 50 = .ok (.invokestatic 187, 3) := by decide +kernel
theorem d_D_isDerived_53 : decode prog_1_method_26_code 53 = .ok (.ifCond .eq 5, 3) := by decide +kernel
theorem d_D_isDerived_56 : decode prog_1_method_26_code 56 = .ok (.iconst 1, 1) := by decide +kernel
theorem d_D_isDerived_57 : decode prog_1_method_26_code 57 = .ok (.ireturn, 1) := by decide +kernel
theorem d_D_isDerived_58 : decode prog_1_method_26_code 58 = .ok (.iinc 3 1, 3) := by decide +kernel
theorem d_D_isDerived_61 : decode prog_1_method_26_code 61 = .ok (.goto (-50), 3) := by decide +kernel
theorem d_D_isDerived_64 : decode prog_1_method_26_code 64 = .ok (.iconst 0, 1) := by decide +kernel
theorem d_D_isDerived_65 : decode prog_1_method_26_code 65 = .ok (.ireturn, 1) := by decide +kernel
theorem d_R_versionOf_0 : decode prog_4_method_9_code 0 = .ok (.aload_n 0, 1) := by decide +kernel
theorem d_R_versionOf_1 : decode prog_4_method_9_code 1 = .ok (.iload_n 1, 1) := by decide +kernel
theorem d_R_versionOf_2 : decode prog_4_method_9_code 2 = .ok (.invokevirtual 32, 3) := by decide +kernel
theorem d_R_versionOf_5 : decode prog_4_method_9_code 5 = .ok (.ifCond .eq 12, 3) := by decide +kernel
theorem d_R_versionOf_8 : decode prog_4_method_9_code 8 = .ok (.aload_n 0, 1) := by decide +kernel
theorem d_R_versionOf_9 : decode prog_4_method_9_code 9 = .ok (.getfield 15, 3) := by decide +kernel
theorem d_R_versionOf_12 : decode prog_4_method_9_code 12 = .ok (.iload_n 1, 1) := by decide +kernel
theorem d_R_versionOf_13 : decode prog_4_method_9_code 13 = .ok (.iaload, 1) := by decide +kernel
theorem d_R_versionOf_14 : decode prog_4_method_9_code 14 = .ok (.goto 4, 3) := by decide +kernel
theorem d_R_versionOf_17 : decode prog_4_method_9_code 17 = .ok (.iconst (-1), 1) := by decide +kernel
theorem d_R_versionOf_18 : decode prog_4_method_9_code 18 = .ok (.ireturn, 1) := by decide +kernel
theorem d_C_sourceOf_0 : decode prog_2_method_12_code 0 = .ok (.aload_n 0, 1) := by decide +kernel
theorem d_C_sourceOf_1 : decode prog_2_method_12_code 1 = .ok (.iload_n 1, 1) := by decide +kernel
theorem d_C_sourceOf_2 : decode prog_2_method_12_code 2 = .ok (.invokevirtual 29, 3) := by decide +kernel
theorem d_C_sourceOf_5 : decode prog_2_method_12_code 5 = .ok (.ifCond .eq 12, 3) := by decide +kernel
theorem d_C_sourceOf_8 : decode prog_2_method_12_code 8 = .ok (.aload_n 0, 1) := by decide +kernel
theorem d_C_sourceOf_9 : decode prog_2_method_12_code 9 = .ok (.getfield 19, 3) := by decide +kernel
theorem d_C_sourceOf_12 : decode prog_2_method_12_code 12 = .ok (.iload_n 1, 1) := by decide +kernel
theorem d_C_sourceOf_13 : decode prog_2_method_12_code 13 = .ok (.iaload, 1) := by decide +kernel
theorem d_C_sourceOf_14 : decode prog_2_method_12_code 14 = .ok (.goto 4, 3) := by decide +kernel
theorem d_C_sourceOf_17 : decode prog_2_method_12_code 17 = .ok (.iconst (-1), 1) := by decide +kernel
theorem d_C_sourceOf_18 : decode prog_2_method_12_code 18 = .ok (.ireturn, 1) := by decide +kernel
theorem d_C_has_0 : decode prog_2_method_3_code 0 = .ok (.iload_n 1, 1) := by decide +kernel
theorem d_C_has_1 : decode prog_2_method_3_code 1 = .ok (.ifCond .lt 15, 3) := by decide +kernel
theorem d_C_has_4 : decode prog_2_method_3_code 4 = .ok (.iload_n 1, 1) := by decide +kernel
theorem d_C_has_5 : decode prog_2_method_3_code 5 = .ok (.aload_n 0, 1) := by decide +kernel
theorem d_C_has_6 : decode prog_2_method_3_code 6 = .ok (.getfield 25, 3) := by decide +kernel
theorem d_C_has_9 : decode prog_2_method_3_code 9 = .ok (.if_icmp .ge 7, 3) := by decide +kernel
theorem d_C_has_12 : decode prog_2_method_3_code 12 = .ok (.iconst 1, 1) := by decide +kernel
theorem d_C_has_13 : decode prog_2_method_3_code 13 = .ok (.goto 4, 3) := by decide +kernel
theorem d_C_has_16 : decode prog_2_method_3_code 16 = .ok (.iconst 0, 1) := by decide +kernel
theorem d_C_has_17 : decode prog_2_method_3_code 17 = .ok (.ireturn, 1) := by decide +kernel
theorem d_R_alike_0 : decode prog_4_method_6_code 0 = .ok (.aload_n 0, 1) := by decide +kernel
theorem d_R_alike_1 : decode prog_4_method_6_code 1 = .ok (.iload_n 1, 1) := by decide +kernel
theorem d_R_alike_2 : decode prog_4_method_6_code 2 = .ok (.invokevirtual 32, 3) := by decide +kernel
theorem d_R_alike_5 : decode prog_4_method_6_code 5 = .ok (.ifCond .eq 76, 3) := by decide +kernel
theorem d_R_alike_8 : decode prog_4_method_6_code 8 = .ok (.aload_n 0, 1) := by decide +kernel
theorem d_R_alike_9 : decode prog_4_method_6_code 9 = .ok (.iload_n 2, 1) := by decide +kernel
theorem d_R_alike_10 : decode prog_4_method_6_code 10 = .ok (.invokevirtual 32, 3) := by decide +kernel
theorem d_R_alike_13 : decode prog_4_method_6_code 13 = .ok (.ifCond .eq 68, 3) := by decide +kernel
theorem d_R_alike_16 : decode prog_4_method_6_code 16 = .ok (.aload_n 0, 1) := by decide +kernel
theorem d_R_alike_17 : decode prog_4_method_6_code 17 = .ok (.getfield 9, 3) := by decide +kernel
theorem d_R_alike_20 : decode prog_4_method_6_code 20 = .ok (.iload_n 1, 1) := by decide +kernel
theorem d_R_alike_21 : decode prog_4_method_6_code 21 = .ok (.iaload, 1) := by decide +kernel
theorem d_R_alike_22 : decode prog_4_method_6_code 22 = .ok (.aload_n 0, 1) := by decide +kernel
theorem d_R_alike_23 : decode prog_4_method_6_code 23 = .ok (.getfield 9, 3) := by decide +kernel
theorem d_R_alike_26 : decode prog_4_method_6_code 26 = .ok (.iload_n 2, 1) := by decide +kernel
theorem d_R_alike_27 : decode prog_4_method_6_code 27 = .ok (.iaload, 1) := by decide +kernel
theorem d_R_alike_28 : decode prog_4_method_6_code 28 = .ok (.if_icmp .ne 53, 3) := by decide +kernel
theorem d_R_alike_31 : decode prog_4_method_6_code 31 = .ok (.aload_n 0, 1) := by decide +kernel
theorem d_R_alike_32 : decode prog_4_method_6_code 32 = .ok (.getfield 18, 3) := by decide +kernel
theorem d_R_alike_35 : decode prog_4_method_6_code 35 = .ok (.iload_n 1, 1) := by decide +kernel
theorem d_R_alike_36 : decode prog_4_method_6_code 36 = .ok (.iaload, 1) := by decide +kernel
theorem d_R_alike_37 : decode prog_4_method_6_code 37 = .ok (.aload_n 0, 1) := by decide +kernel
theorem d_R_alike_38 : decode prog_4_method_6_code 38 = .ok (.getfield 18, 3) := by decide +kernel
theorem d_R_alike_41 : decode prog_4_method_6_code 41 = .ok (.iload_n 2, 1) := by decide +kernel
theorem d_R_alike_42 : decode prog_4_method_6_code 42 = .ok (.iaload, 1) := by decide +kernel
theorem d_R_alike_43 : decode prog_4_method_6_code 43 = .ok (.if_icmp .ne 38, 3) := by decide +kernel
theorem d_R_alike_46 : decode prog_4_method_6_code 46 = .ok (.aload_n 0, 1) := by decide +kernel
theorem d_R_alike_47 : decode prog_4_method_6_code 47 = .ok (.getfield 21, 3) := by decide +kernel
theorem d_R_alike_50 : decode prog_4_method_6_code 50 = .ok (.iload_n 1, 1) := by decide +kernel
theorem d_R_alike_51 : decode prog_4_method_6_code 51 = .ok (.laload, 1) := by decide +kernel
theorem d_R_alike_52 : decode prog_4_method_6_code 52 = .ok (.aload_n 0, 1) := by decide +kernel
theorem d_R_alike_53 : decode prog_4_method_6_code 53 = .ok (.getfield 21, 3) := by decide +kernel
theorem d_R_alike_56 : decode prog_4_method_6_code 56 = .ok (.iload_n 2, 1) := by decide +kernel
theorem d_R_alike_57 : decode prog_4_method_6_code 57 = .ok (.laload, 1) := by decide +kernel
theorem d_R_alike_58 : decode prog_4_method_6_code 58 = .ok (.lcmp, 1) := by decide +kernel
theorem d_R_alike_59 : decode prog_4_method_6_code 59 = .ok (.ifCond .ne 22, 3) := by decide +kernel
theorem d_R_alike_62 : decode prog_4_method_6_code 62 = .ok (.aload_n 0, 1) := by decide +kernel
theorem d_R_alike_63 : decode prog_4_method_6_code 63 = .ok (.getfield 25, 3) := by decide +kernel
theorem d_R_alike_66 : decode prog_4_method_6_code 66 = .ok (.iload_n 1, 1) := by decide +kernel
theorem d_R_alike_67 : decode prog_4_method_6_code 67 = .ok (.iaload, 1) := by decide +kernel
theorem d_R_alike_68 : decode prog_4_method_6_code 68 = .ok (.aload_n 0, 1) := by decide +kernel
theorem d_R_alike_69 : decode prog_4_method_6_code 69 = .ok (.getfield 25, 3) := by decide +kernel
theorem d_R_alike_72 : decode prog_4_method_6_code 72 = .ok (.iload_n 2, 1) := by decide +kernel
theorem d_R_alike_73 : decode prog_4_method_6_code 73 = .ok (.iaload, 1) := by decide +kernel
theorem d_R_alike_74 : decode prog_4_method_6_code 74 = .ok (.if_icmp .ne 7, 3) := by decide +kernel
theorem d_R_alike_77 : decode prog_4_method_6_code 77 = .ok (.iconst 1, 1) := by decide +kernel
theorem d_R_alike_78 : decode prog_4_method_6_code 78 = .ok (.goto 4, 3) := by decide +kernel
theorem d_R_alike_81 : decode prog_4_method_6_code 81 = .ok (.iconst 0, 1) := by decide +kernel
theorem d_R_alike_82 : decode prog_4_method_6_code 82 = .ok (.ireturn, 1) := by decide +kernel
theorem d_C_runOf_0 : decode prog_2_method_13_code 0 = .ok (.aload_n 0, 1) := by decide +kernel
theorem d_C_runOf_1 : decode prog_2_method_13_code 1 = .ok (.iload_n 1, 1) := by decide +kernel
theorem d_C_runOf_2 : decode prog_2_method_13_code 2 = .ok (.invokevirtual 29, 3) := by decide +kernel
theorem d_C_runOf_5 : decode prog_2_method_13_code 5 = .ok (.ifCond .eq 12, 3) := by decide +kernel
theorem d_C_runOf_8 : decode prog_2_method_13_code 8 = .ok (.aload_n 0, 1) := by decide +kernel
theorem d_C_runOf_9 : decode prog_2_method_13_code 9 = .ok (.getfield 22, 3) := by decide +kernel
theorem d_C_runOf_12 : decode prog_2_method_13_code 12 = .ok (.iload_n 1, 1) := by decide +kernel
theorem d_C_runOf_13 : decode prog_2_method_13_code 13 = .ok (.laload, 1) := by decide +kernel
theorem d_C_runOf_14 : decode prog_2_method_13_code 14 = .ok (.goto 4, 3) := by decide +kernel
theorem d_C_runOf_17 : decode prog_2_method_13_code 17 = .ok (.lconst 0, 1) := by decide +kernel
theorem d_C_runOf_18 : decode prog_2_method_13_code 18 = .ok (.lreturn, 1) := by decide +kernel
theorem d_D_deriveFrom_0 : decode prog_1_method_27_code 0 = .ok (.aload_n 0, 1) := by decide +kernel
theorem d_D_deriveFrom_1 : decode prog_1_method_27_code 1 = .ok (.getfield 26, 3) := by decide +kernel
theorem d_D_deriveFrom_4 : decode prog_1_method_27_code 4 = .ok (.iload_n 1, 1) := by decide +kernel
theorem d_D_deriveFrom_5 : decode prog_1_method_27_code 5 = .ok (.invokevirtual 190, 3) := by decide +kernel
theorem d_D_deriveFrom_8 : decode prog_1_method_27_code 8 = .ok (.aload_n 0, 1) := by decide +kernel
theorem d_D_deriveFrom_9 : decode prog_1_method_27_code 9 = .ok (.getfield 26, 3) := by decide +kernel
theorem d_D_deriveFrom_12 : decode prog_1_method_27_code 12 = .ok (.iload_n 1, 1) := by decide +kernel
theorem d_D_deriveFrom_13 : decode prog_1_method_27_code 13 = .ok (.invokevirtual 175, 3) := by decide +kernel
theorem d_D_deriveFrom_16 : decode prog_1_method_27_code 16 = .ok (.invokestatic 193, 3) := by decide +kernel
theorem d_D_deriveFrom_19 : decode prog_1_method_27_code 19 = .ok (.lstore_n 2, 1) := by decide +kernel
theorem d_D_deriveFrom_20 : decode prog_1_method_27_code 20 = .ok (.aload_n 0, 1) := by decide +kernel
theorem d_D_deriveFrom_21 : decode prog_1_method_27_code 21 = .ok (.getfield 33, 3) := by decide +kernel
theorem d_D_deriveFrom_24 : decode prog_1_method_27_code 24 = .ok (.iload_n 1, 1) := by decide +kernel
theorem d_D_deriveFrom_25 : decode prog_1_method_27_code 25 = .ok (.lload_n 2, 1) := by decide +kernel
theorem d_D_deriveFrom_26 : decode prog_1_method_27_code 26 = .ok (.invokevirtual 111, 3) := by decide +kernel
theorem d_D_deriveFrom_29 : decode prog_1_method_27_code 29 = .ok (.istore 4, 2) := by decide +kernel
theorem d_D_deriveFrom_31 : decode prog_1_method_27_code 31 = .ok (.iload 4, 2) := by decide +kernel
theorem d_D_deriveFrom_33 : decode prog_1_method_27_code 33 = .ok (.iconst (-1), 1) := by decide +kernel
theorem d_D_deriveFrom_34 : decode prog_1_method_27_code 34 = .ok (.if_icmp .ne 5, 3) := by decide +kernel
theorem d_D_deriveFrom_37 : decode prog_1_method_27_code 37 = .ok (.iconst 0, 1) := by decide +kernel
theorem d_D_deriveFrom_38 : decode prog_1_method_27_code 38 = .ok (.ireturn, 1) := by decide +kernel
theorem d_D_deriveFrom_39 : decode prog_1_method_27_code 39 = .ok (.aload_n 0, 1) := by decide +kernel
theorem d_D_deriveFrom_40 : decode prog_1_method_27_code 40 = .ok (.iload 4, 2) := by decide +kernel
theorem d_D_deriveFrom_42 : decode prog_1_method_27_code 42 = .ok (.aload_n 0, 1) := by decide +kernel
theorem d_D_deriveFrom_43 : decode prog_1_method_27_code 43 = .ok (.getfield 26, 3) := by decide +kernel
theorem d_D_deriveFrom_46 : decode prog_1_method_27_code 46 = .ok (.iload_n 1, 1) := by decide +kernel
theorem d_D_deriveFrom_47 : decode prog_1_method_27_code 47 = .ok (.invokevirtual 197, 3) := by decide +kernel
theorem d_D_deriveFrom_50 : decode prog_1_method_27_code 50 = .ok (.lload_n 2, 1) := by decide +kernel
theorem d_D_deriveFrom_51 : decode prog_1_method_27_code 51 = .ok (.invokevirtual 112, 3) := by decide +kernel
theorem d_D_deriveFrom_54 : decode prog_1_method_27_code 54 = .ok (.aload_n 0, 1) := by decide +kernel
theorem d_D_deriveFrom_55 : decode prog_1_method_27_code 55 = .ok (.getfield 26, 3) := by decide +kernel
theorem d_D_deriveFrom_58 : decode prog_1_method_27_code 58 = .ok (.iload_n 1, 1) := by decide +kernel
theorem d_D_deriveFrom_59 : decode prog_1_method_27_code 59 = .ok (.invokevirtual 198, 3) := by decide +kernel
theorem d_D_deriveFrom_62 : decode prog_1_method_27_code 62 = .ok (.istore 5, 2) := by decide +kernel
theorem d_D_deriveFrom_64 : decode prog_1_method_27_code 64 = .ok (.aload_n 0, 1) := by decide +kernel
theorem d_D_deriveFrom_65 : decode prog_1_method_27_code 65 = .ok (.iload 4, 2) := by decide +kernel
theorem d_D_deriveFrom_67 : decode prog_1_method_27_code 67 = .ok (.iload 5, 2) := by decide +kernel
theorem d_D_deriveFrom_69 : decode prog_1_method_27_code 69 = .ok (.aload_n 0, 1) := by decide +kernel
theorem d_D_deriveFrom_70 : decode prog_1_method_27_code 70 = .ok (.getfield 12, 3) := by decide +kernel
theorem d_D_deriveFrom_73 : decode prog_1_method_27_code 73 = .ok (.iload 5, 2) := by decide +kernel
theorem d_D_deriveFrom_75 : decode prog_1_method_27_code 75 = .ok (.aload_n 0, 1) := by decide +kernel
theorem d_D_deriveFrom_76 : decode prog_1_method_27_code 76 = .ok (.getfield 26, 3) := by decide +kernel
theorem d_D_deriveFrom_79 : decode prog_1_method_27_code 79 = .ok (.iload_n 1, 1) := by decide +kernel
theorem d_D_deriveFrom_80 : decode prog_1_method_27_code 80 = .ok (.invokevirtual 201, 3) := by decide +kernel
theorem d_D_deriveFrom_83 : decode prog_1_method_27_code 83 = .ok (.iconst 0, 1) := by decide +kernel
theorem d_D_deriveFrom_84 : decode prog_1_method_27_code 84 = .ok (.invokevirtual 60, 3) := by decide +kernel
theorem d_D_deriveFrom_87 : decode prog_1_method_27_code 87 = .ok (.invokevirtual 112, 3) := by decide +kernel
theorem d_D_deriveFrom_90 : decode prog_1_method_27_code 90 = .ok (.iconst 1, 1) := by decide +kernel
theorem d_D_deriveFrom_91 : decode prog_1_method_27_code 91 = .ok (.ireturn, 1) := by decide +kernel
theorem d_R_versionsLike_0 : decode prog_4_method_7_code 0 = .ok (.lconst 0, 1) := by decide +kernel
theorem d_R_versionsLike_1 : decode prog_4_method_7_code 1 = .ok (.lstore_n 2, 1) := by decide +kernel
theorem d_R_versionsLike_2 : decode prog_4_method_7_code 2 = .ok (.iconst 0, 1) := by decide +kernel
theorem d_R_versionsLike_3 : decode prog_4_method_7_code 3 = .ok (.istore 4, 2) := by decide +kernel
theorem d_R_versionsLike_5 : decode prog_4_method_7_code 5 = .ok (.iload 4, 2) := by decide +kernel
theorem d_R_versionsLike_7 : decode prog_4_method_7_code 7 = .ok (.aload_n 0, 1) := by decide +kernel
theorem d_R_versionsLike_8 : decode prog_4_method_7_code 8 = .ok (.getfield 28, 3) := by decide +kernel
theorem d_R_versionsLike_11 : decode prog_4_method_7_code 11 = .ok (.if_icmp .ge 31, 3) := by decide +kernel
theorem d_R_versionsLike_14 : decode prog_4_method_7_code 14 = .ok (.aload_n 0, 1) := by decide +kernel
theorem d_R_versionsLike_15 : decode prog_4_method_7_code 15 = .ok (.iload 4, 2) := by decide +kernel
theorem d_R_versionsLike_17 : decode prog_4_method_7_code 17 = .ok (.iload_n 1, 1) := by decide +kernel
theorem d_R_versionsLike_18 : decode prog_4_method_7_code 18 = .ok (.invokevirtual 36, 3) := by decide +kernel
theorem d_R_versionsLike_21 : decode prog_4_method_7_code 21 = .ok (.ifCond .eq 15, 3) := by decide +kernel
theorem d_R_versionsLike_24 : decode prog_4_method_7_code 24 = .ok (.lload_n 2, 1) := by decide +kernel
theorem d_R_versionsLike_25 : decode prog_4_method_7_code 25 = .ok (.lconst 1, 1) := by decide +kernel
theorem d_R_versionsLike_26 : decode prog_4_method_7_code 26 = .ok (.aload_n 0, 1) := by decide +kernel
theorem d_R_versionsLike_27 : decode prog_4_method_7_code 27 = .ok (.getfield 15, 3) := by decide +kernel
theorem d_R_versionsLike_30 : decode prog_4_method_7_code 30 = .ok (.iload 4, 2) := by decide +kernel
theorem d_R_versionsLike_32 : decode prog_4_method_7_code 32 = .ok (.iaload, 1) := by decide +kernel
theorem d_R_versionsLike_33 : decode prog_4_method_7_code 33 = .ok (.lshl, 1) := by decide +kernel
theorem d_R_versionsLike_34 : decode prog_4_method_7_code 34 = .ok (.lor, 1) := by decide +kernel
theorem d_R_versionsLike_35 : decode prog_4_method_7_code 35 = .ok (.lstore_n 2, 1) := by decide +kernel
theorem d_R_versionsLike_36 : decode prog_4_method_7_code 36 = .ok (.iinc 4 1, 3) := by decide +kernel
theorem d_R_versionsLike_39 : decode prog_4_method_7_code 39 = .ok (.goto (-34), 3) := by decide +kernel
theorem d_R_versionsLike_42 : decode prog_4_method_7_code 42 = .ok (.lload_n 2, 1) := by decide +kernel
theorem d_R_versionsLike_43 : decode prog_4_method_7_code 43 = .ok (.lreturn, 1) := by decide +kernel
theorem d_D_runAround_0 : decode prog_1_method_40_code 0 = .ok (.lconst 1, 1) := by decide +kernel
theorem d_D_runAround_1 : decode prog_1_method_40_code 1 = .ok (.iload_n 2, 1) := by decide +kernel
theorem d_D_runAround_2 : decode prog_1_method_40_code 2 = .ok (.lshl, 1) := by decide +kernel
theorem d_D_runAround_3 : decode prog_1_method_40_code 3 = .ok (.lstore_n 3, 1) := by decide +kernel
theorem d_D_runAround_4 : decode prog_1_method_40_code 4 = .ok (.iload_n 2, 1) := by decide +kernel
theorem d_D_runAround_5 : decode prog_1_method_40_code 5 = .ok (.iconst 1, 1) := by decide +kernel
theorem d_D_runAround_6 : decode prog_1_method_40_code 6 = .ok (.isub, 1) := by decide +kernel
theorem d_D_runAround_7 : decode prog_1_method_40_code 7 = .ok (.istore 5, 2) := by decide +kernel
theorem d_D_runAround_9 : decode prog_1_method_40_code 9 = .ok (.iload 5, 2) := by decide +kernel
theorem d_D_runAround_11 : decode prog_1_method_40_code 11 = .ok (.ifCond .lt 25, 3) := by decide +kernel
theorem d_D_runAround_14 : decode prog_1_method_40_code 14 = .ok (.lload_n 0, 1) := by decide +kernel
theorem d_D_runAround_15 : decode prog_1_method_40_code 15 = .ok (.iload 5, 2) := by decide +kernel
theorem d_D_runAround_17 : decode prog_1_method_40_code 17 = .ok (.invokestatic 187, 3) := by decide +kernel
theorem d_D_runAround_20 : decode prog_1_method_40_code 20 = .ok (.ifCond .eq 16, 3) := by decide +kernel
theorem d_D_runAround_23 : decode prog_1_method_40_code 23 = .ok (.lload_n 3, 1) := by decide +kernel
theorem d_D_runAround_24 : decode prog_1_method_40_code 24 = .ok (.lconst 1, 1) := by decide +kernel
theorem d_D_runAround_25 : decode prog_1_method_40_code 25 = .ok (.iload 5, 2) := by decide +kernel
