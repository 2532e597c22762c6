theorem d_D_runAround_27 : decode prog_1_method_40_code 27 = .ok (.lshl, 1) := by decide +kernel
theorem d_D_runAround_28 : decode prog_1_method_40_code 28 = .ok (.lor, 1) := by decide +kernel
theorem d_D_runAround_29 : decode prog_1_method_40_code 29 = .ok (.lstore_n 3, 1) := by decide +kernel
theorem d_D_runAround_30 : decode prog_1_method_40_code 30 = .ok (.iinc 5 (-1), 3) := by decide +kernel
theorem d_D_runAround_33 : decode prog_1_method_40_code 33 = .ok (.goto (-24), 3) := by decide +kernel
theorem d_D_runAround_36 : decode prog_1_method_40_code 36 = .ok (.iload_n 2, 1) := by decide +kernel
theorem d_D_runAround_37 : decode prog_1_method_40_code 37 = .ok (.iconst 1, 1) := by decide +kernel
theorem d_D_runAround_38 : decode prog_1_method_40_code 38 = .ok (.iadd, 1) := by decide +kernel
theorem d_D_runAround_39 : decode prog_1_method_40_code 39 = .ok (.istore 5, 2) := by decide +kernel
theorem d_D_runAround_41 : decode prog_1_method_40_code 41 = .ok (.iload 5, 2) := by decide +kernel
theorem d_D_runAround_43 : decode prog_1_method_40_code 43 = .ok (.bipush 48, 2) := by decide +kernel
theorem d_D_runAround_45 : decode prog_1_method_40_code 45 = .ok (.if_icmp .ge 25, 3) := by decide +kernel
theorem d_D_runAround_48 : decode prog_1_method_40_code 48 = .ok (.lload_n 0, 1) := by decide +kernel
theorem d_D_runAround_49 : decode prog_1_method_40_code 49 = .ok (.iload 5, 2) := by decide +kernel
theorem d_D_runAround_51 : decode prog_1_method_40_code 51 = .ok (.invokestatic 187, 3) := by decide +kernel
theorem d_D_runAround_54 : decode prog_1_method_40_code 54 = .ok (.ifCond .eq 16, 3) := by decide +kernel
theorem d_D_runAround_57 : decode prog_1_method_40_code 57 = .ok (.lload_n 3, 1) := by decide +kernel
theorem d_D_runAround_58 : decode prog_1_method_40_code 58 = .ok (.lconst 1, 1) := by decide +kernel
theorem d_D_runAround_59 : decode prog_1_method_40_code 59 = .ok (.iload 5, 2) := by decide +kernel
theorem d_D_runAround_61 : decode prog_1_method_40_code 61 = .ok (.lshl, 1) := by decide +kernel
theorem d_D_runAround_62 : decode prog_1_method_40_code 62 = .ok (.lor, 1) := by decide +kernel
theorem d_D_runAround_63 : decode prog_1_method_40_code 63 = .ok (.lstore_n 3, 1) := by decide +kernel
theorem d_D_runAround_64 : decode prog_1_method_40_code 64 = .ok (.iinc 5 1, 3) := by decide +kernel
theorem d_D_runAround_67 : decode prog_1_method_40_code 67 = .ok (.goto (-26), 3) := by decide +kernel
theorem d_D_runAround_70 : decode prog_1_method_40_code 70 = .ok (.lload_n 3, 1) := by decide +kernel
theorem d_D_runAround_71 : decode prog_1_method_40_code 71 = .ok (.lreturn, 1) := by decide +kernel
theorem d_C_add_0 : decode prog_2_method_4_code 0 = .ok (.aload_n 0, 1) := by decide +kernel
theorem d_C_add_1 : decode prog_2_method_4_code 1 = .ok (.getfield 25, 3) := by decide +kernel
theorem d_C_add_4 : decode prog_2_method_4_code 4 = .ok (.sipush 300, 3) := by decide +kernel
theorem d_C_add_7 : decode prog_2_method_4_code 7 = .ok (.if_icmp .lt 5, 3) := by decide +kernel
theorem d_C_add_10 : decode prog_2_method_4_code 10 = .ok (.iconst (-1), 1) := by decide +kernel
theorem d_C_add_11 : decode prog_2_method_4_code 11 = .ok (.ireturn, 1) := by decide +kernel
theorem d_C_add_12 : decode prog_2_method_4_code 12 = .ok (.aload_n 0, 1) := by decide +kernel
theorem d_C_add_13 : decode prog_2_method_4_code 13 = .ok (.getfield 9, 3) := by decide +kernel
theorem d_C_add_16 : decode prog_2_method_4_code 16 = .ok (.aload_n 0, 1) := by decide +kernel
theorem d_C_add_17 : decode prog_2_method_4_code 17 = .ok (.getfield 25, 3) := by decide +kernel
theorem d_C_add_20 : decode prog_2_method_4_code 20 = .ok (.iconst 0, 1) := by decide +kernel
theorem d_C_add_21 : decode prog_2_method_4_code 21 = .ok (.iastore, 1) := by decide +kernel
theorem d_C_add_22 : decode prog_2_method_4_code 22 = .ok (.aload_n 0, 1) := by decide +kernel
theorem d_C_add_23 : decode prog_2_method_4_code 23 = .ok (.getfield 19, 3) := by decide +kernel
theorem d_C_add_26 : decode prog_2_method_4_code 26 = .ok (.aload_n 0, 1) := by decide +kernel
theorem d_C_add_27 : decode prog_2_method_4_code 27 = .ok (.getfield 25, 3) := by decide +kernel
theorem d_C_add_30 : decode prog_2_method_4_code 30 = .ok (.iload_n 1, 1) := by decide +kernel
theorem d_C_add_31 : decode prog_2_method_4_code 31 = .ok (.iastore, 1) := by decide +kernel
theorem d_C_add_32 : decode prog_2_method_4_code 32 = .ok (.aload_n 0, 1) := by decide +kernel
theorem d_C_add_33 : decode prog_2_method_4_code 33 = .ok (.getfield 22, 3) := by decide +kernel
theorem d_C_add_36 : decode prog_2_method_4_code 36 = .ok (.aload_n 0, 1) := by decide +kernel
theorem d_C_add_37 : decode prog_2_method_4_code 37 = .ok (.getfield 25, 3) := by decide +kernel
theorem d_C_add_40 : decode prog_2_method_4_code 40 = .ok (.lload_n 2, 1) := by decide +kernel
theorem d_C_add_41 : decode prog_2_method_4_code 41 = .ok (.lastore, 1) := by decide +kernel
theorem d_C_add_42 : decode prog_2_method_4_code 42 = .ok (.aload_n 0, 1) := by decide +kernel
theorem d_C_add_43 : decode prog_2_method_4_code 43 = .ok (.dup, 1) := by decide +kernel
theorem d_C_add_44 : decode prog_2_method_4_code 44 = .ok (.getfield 25, 3) := by decide +kernel
theorem d_C_add_47 : decode prog_2_method_4_code 47 = .ok (.iconst 1, 1) := by decide +kernel
theorem d_C_add_48 : decode prog_2_method_4_code 48 = .ok (.iadd, 1) := by decide +kernel
theorem d_C_add_49 : decode prog_2_method_4_code 49 = .ok (.putfield 25, 3) := by decide +kernel
theorem d_C_add_52 : decode prog_2_method_4_code 52 = .ok (.aload_n 0, 1) := by decide +kernel
theorem d_C_add_53 : decode prog_2_method_4_code 53 = .ok (.getfield 25, 3) := by decide +kernel
theorem d_C_add_56 : decode prog_2_method_4_code 56 = .ok (.iconst 1, 1) := by decide +kernel
theorem d_C_add_57 : decode prog_2_method_4_code 57 = .ok (.isub, 1) := by decide +kernel
theorem d_C_add_58 : decode prog_2_method_4_code 58 = .ok (.ireturn, 1) := by decide +kernel
theorem d_R_nameOf_0 : decode prog_4_method_8_code 0 = .ok (.aload_n 0, 1) := by decide +kernel
theorem d_R_nameOf_1 : decode prog_4_method_8_code 1 = .ok (.iload_n 1, 1) := by decide +kernel
theorem d_R_nameOf_2 : decode prog_4_method_8_code 2 = .ok (.invokevirtual 32, 3) := by decide +kernel
theorem d_R_nameOf_5 : decode prog_4_method_8_code 5 = .ok (.ifCond .eq 12, 3) := by decide +kernel
theorem d_R_nameOf_8 : decode prog_4_method_8_code 8 = .ok (.aload_n 0, 1) := by decide +kernel
theorem d_R_nameOf_9 : decode prog_4_method_8_code 9 = .ok (.getfield 9, 3) := by decide +kernel
theorem d_R_nameOf_12 : decode prog_4_method_8_code 12 = .ok (.iload_n 1, 1) := by decide +kernel
theorem d_R_nameOf_13 : decode prog_4_method_8_code 13 = .ok (.iaload, 1) := by decide +kernel
theorem d_R_nameOf_14 : decode prog_4_method_8_code 14 = .ok (.goto 4, 3) := by decide +kernel
theorem d_R_nameOf_17 : decode prog_4_method_8_code 17 = .ok (.iconst (-1), 1) := by decide +kernel
theorem d_R_nameOf_18 : decode prog_4_method_8_code 18 = .ok (.ireturn, 1) := by decide +kernel
theorem d_D_putPart_0 : decode prog_1_method_28_code 0 = .ok (.lload_n 3, 1) := by decide +kernel
theorem d_D_putPart_1 : decode prog_1_method_28_code 1 = .ok (.aload_n 0, 1) := by decide +kernel
theorem d_D_putPart_2 : decode prog_1_method_28_code 2 = .ok (.getfield 12, 3) := by decide +kernel
theorem d_D_putPart_5 : decode prog_1_method_28_code 5 = .ok (.iload_n 2, 1) := by decide +kernel
theorem d_D_putPart_6 : decode prog_1_method_28_code 6 = .ok (.invokevirtual 52, 3) := by decide +kernel
theorem d_D_putPart_9 : decode prog_1_method_28_code 9 = .ok (.lcmp, 1) := by decide +kernel
theorem d_D_putPart_10 : decode prog_1_method_28_code 10 = .ok (.ifCond .eq 13, 3) := by decide +kernel
theorem d_D_putPart_13 : decode prog_1_method_28_code 13 = .ok (.aload_n 0, 1) := by decide +kernel
theorem d_D_putPart_14 : decode prog_1_method_28_code 14 = .ok (.getfield 33, 3) := by decide +kernel
theorem d_D_putPart_17 : decode prog_1_method_28_code 17 = .ok (.iload_n 1, 1) := by decide +kernel
theorem d_D_putPart_18 : decode prog_1_method_28_code 18 = .ok (.iload_n 2, 1) := by decide +kernel
theorem d_D_putPart_19 : decode prog_1_method_28_code 19 = .ok (.lload_n 3, 1) := by decide +kernel
theorem d_D_putPart_20 : decode prog_1_method_28_code 20 = .ok (.invokevirtual 204, 3) := by decide +kernel
theorem d_D_putPart_23 : decode prog_1_method_28_code 23 = .ok (.return_, 1) := by decide +kernel
theorem d_C_put_0 : decode prog_2_method_6_code 0 = .ok (.aload_n 0, 1) := by decide +kernel
theorem d_C_put_1 : decode prog_2_method_6_code 1 = .ok (.iload_n 1, 1) := by decide +kernel
theorem d_C_put_2 : decode prog_2_method_6_code 2 = .ok (.invokevirtual 29, 3) := by decide +kernel
theorem d_C_put_5 : decode prog_2_method_6_code 5 = .ok (.ifCond .eq 37, 3) := by decide +kernel
theorem d_C_put_8 : decode prog_2_method_6_code 8 = .ok (.iload_n 2, 1) := by decide +kernel
theorem d_C_put_9 : decode prog_2_method_6_code 9 = .ok (.ifCond .lt 33, 3) := by decide +kernel
theorem d_C_put_12 : decode prog_2_method_6_code 12 = .ok (.iload_n 2, 1) := by decide +kernel
theorem d_C_put_13 : decode prog_2_method_6_code 13 = .ok (.bipush 16, 2) := by decide +kernel
theorem d_C_put_15 : decode prog_2_method_6_code 15 = .ok (.if_icmp .ge 27, 3) := by decide +kernel
theorem d_C_put_18 : decode prog_2_method_6_code 18 = .ok (.aload_n 0, 1) := by decide +kernel
theorem d_C_put_19 : decode prog_2_method_6_code 19 = .ok (.getfield 9, 3) := by decide +kernel
theorem d_C_put_22 : decode prog_2_method_6_code 22 = .ok (.iload_n 1, 1) := by decide +kernel
theorem d_C_put_23 : decode prog_2_method_6_code 23 = .ok (.dup2, 1) := by decide +kernel
theorem d_C_put_24 : decode prog_2_method_6_code 24 = .ok (.iaload, 1) := by decide +kernel
theorem d_C_put_25 : decode prog_2_method_6_code 25 = .ok (.iconst 1, 1) := by decide +kernel
theorem d_C_put_26 : decode prog_2_method_6_code 26 = .ok (.iload_n 2, 1) := by decide +kernel
theorem d_C_put_27 : decode prog_2_method_6_code 27 = .ok (.ishl, 1) := by decide +kernel
theorem d_C_put_28 : decode prog_2_method_6_code 28 = .ok (.ior, 1) := by decide +kernel
theorem d_C_put_29 : decode prog_2_method_6_code 29 = .ok (.iastore, 1) := by decide +kernel
theorem d_C_put_30 : decode prog_2_method_6_code 30 = .ok (.aload_n 0, 1) := by decide +kernel
theorem d_C_put_31 : decode prog_2_method_6_code 31 = .ok (.getfield 15, 3) := by decide +kernel
theorem d_C_put_34 : decode prog_2_method_6_code 34 = .ok (.iload_n 1, 1) := by decide +kernel
theorem d_C_put_35 : decode prog_2_method_6_code 35 = .ok (.bipush 16, 2) := by decide +kernel
theorem d_C_put_37 : decode prog_2_method_6_code 37 = .ok (.imul, 1) := by decide +kernel
theorem d_C_put_38 : decode prog_2_method_6_code 38 = .ok (.iload_n 2, 1) := by decide +kernel
theorem d_C_put_39 : decode prog_2_method_6_code 39 = .ok (.iadd, 1) := by decide +kernel
theorem d_C_put_40 : decode prog_2_method_6_code 40 = .ok (.lload_n 3, 1) := by decide +kernel
theorem d_C_put_41 : decode prog_2_method_6_code 41 = .ok (.lastore, 1) := by decide +kernel
theorem d_C_put_42 : decode prog_2_method_6_code 42 = .ok (.return_, 1) := by decide +kernel
theorem d_R_otherOf_0 : decode prog_4_method_10_code 0 = .ok (.aload_n 0, 1) := by decide +kernel
theorem d_R_otherOf_1 : decode prog_4_method_10_code 1 = .ok (.iload_n 1, 1) := by decide +kernel
theorem d_R_otherOf_2 : decode prog_4_method_10_code 2 = .ok (.invokevirtual 32, 3) := by decide +kernel
theorem d_R_otherOf_5 : decode prog_4_method_10_code 5 = .ok (.ifCond .eq 12, 3) := by decide +kernel
theorem d_R_otherOf_8 : decode prog_4_method_10_code 8 = .ok (.aload_n 0, 1) := by decide +kernel
theorem d_R_otherOf_9 : decode prog_4_method_10_code 9 = .ok (.getfield 18, 3) := by decide +kernel
theorem d_R_otherOf_12 : decode prog_4_method_10_code 12 = .ok (.iload_n 1, 1) := by decide +kernel
theorem d_R_otherOf_13 : decode prog_4_method_10_code 13 = .ok (.iaload, 1) := by decide +kernel
theorem d_R_otherOf_14 : decode prog_4_method_10_code 14 = .ok (.goto 4, 3) := by decide +kernel
theorem d_R_otherOf_17 : decode prog_4_method_10_code 17 = .ok (.iconst (-1), 1) := by decide +kernel
theorem d_R_otherOf_18 : decode prog_4_method_10_code 18 = .ok (.ireturn, 1) := by decide +kernel
theorem d_R_neededOf_0 : decode prog_4_method_11_code 0 = .ok (.aload_n 0, 1) := by decide +kernel
theorem d_R_neededOf_1 : decode prog_4_method_11_code 1 = .ok (.iload_n 1, 1) := by decide +kernel
theorem d_R_neededOf_2 : decode prog_4_method_11_code 2 = .ok (.invokevirtual 32, 3) := by decide +kernel
theorem d_R_neededOf_5 : decode prog_4_method_11_code 5 = .ok (.ifCond .eq 12, 3) := by decide +kernel
theorem d_R_neededOf_8 : decode prog_4_method_11_code 8 = .ok (.aload_n 0, 1) := by decide +kernel
theorem d_R_neededOf_9 : decode prog_4_method_11_code 9 = .ok (.getfield 21, 3) := by decide +kernel
theorem d_R_neededOf_12 : decode prog_4_method_11_code 12 = .ok (.iload_n 1, 1) := by decide +kernel
theorem d_R_neededOf_13 : decode prog_4_method_11_code 13 = .ok (.laload, 1) := by decide +kernel
theorem d_R_neededOf_14 : decode prog_4_method_11_code 14 = .ok (.goto 4, 3) := by decide +kernel
theorem d_R_neededOf_17 : decode prog_4_method_11_code 17 = .ok (.lconst 0, 1) := by decide +kernel
theorem d_R_neededOf_18 : decode prog_4_method_11_code 18 = .ok (.lreturn, 1) := by decide +kernel
theorem d_C_cutTo_0 : decode prog_2_method_5_code 0 = .ok (.iload_n 1, 1) := by decide +kernel
theorem d_C_cutTo_1 : decode prog_2_method_5_code 1 = .ok (.ifCond .lt 16, 3) := by decide +kernel
theorem d_C_cutTo_4 : decode prog_2_method_5_code 4 = .ok (.iload_n 1, 1) := by decide +kernel
theorem d_C_cutTo_5 : decode prog_2_method_5_code 5 = .ok (.aload_n 0, 1) := by decide +kernel
theorem d_C_cutTo_6 : decode prog_2_method_5_code 6 = .ok (.getfield 25, 3) := by decide +kernel
theorem d_C_cutTo_9 : decode prog_2_method_5_code 9 = .ok (.if_icmp .ge 8, 3) := by decide +kernel
theorem d_C_cutTo_12 : decode prog_2_method_5_code 12 = .ok (.aload_n 0, 1) := by decide +kernel
theorem d_C_cutTo_13 : decode prog_2_method_5_code 13 = .ok (.iload_n 1, 1) := by decide +kernel
theorem d_C_cutTo_14 : decode prog_2_method_5_code 14 = .ok (.putfield 25, 3) := by decide +kernel
theorem d_C_cutTo_17 : decode prog_2_method_5_code 17 = .ok (.return_, 1) := by decide +kernel
theorem d_D_bar_0 : decode prog_1_method_10_code 0 = .ok (.aload_n 0, 1) := by decide +kernel
theorem d_D_bar_1 : decode prog_1_method_10_code 1 = .ok (.getfield 12, 3) := by decide +kernel
theorem d_D_bar_4 : decode prog_1_method_10_code 4 = .ok (.iload_n 1, 1) := by decide +kernel
theorem d_D_bar_5 : decode prog_1_method_10_code 5 = .ok (.invokevirtual 56, 3) := by decide +kernel
theorem d_D_bar_8 : decode prog_1_method_10_code 8 = .ok (.ifCond .ne 5, 3) := by decide +kernel
theorem d_D_bar_11 : decode prog_1_method_10_code 11 = .ok (.iconst (-1), 1) := by decide +kernel
theorem d_D_bar_12 : decode prog_1_method_10_code 12 = .ok (.ireturn, 1) := by decide +kernel
theorem d_D_bar_13 : decode prog_1_method_10_code 13 = .ok (.aload_n 0, 1) := by decide +kernel
theorem d_D_bar_14 : decode prog_1_method_10_code 14 = .ok (.getfield 33, 3) := by decide +kernel
theorem d_D_bar_17 : decode prog_1_method_10_code 17 = .ok (.iconst (-1), 1) := by decide +kernel
theorem d_D_bar_18 : decode prog_1_method_10_code 18 = .ok (.lconst 0, 1) := by decide +kernel
theorem d_D_bar_19 : decode prog_1_method_10_code 19 = .ok (.invokevirtual 111, 3) := by decide +kernel
theorem d_D_bar_22 : decode prog_1_method_10_code 22 = .ok (.istore 5, 2) := by decide +kernel
theorem d_D_bar_24 : decode prog_1_method_10_code 24 = .ok (.iload 5, 2) := by decide +kernel
theorem d_D_bar_26 : decode prog_1_method_10_code 26 = .ok (.iconst (-1), 1) := by decide +kernel
theorem d_D_bar_27 : decode prog_1_method_10_code 27 = .ok (.if_icmp .eq 29, 3) := by decide +kernel
theorem d_D_bar_30 : decode prog_1_method_10_code 30 = .ok (.aload_n 0, 1) := by decide +kernel
theorem d_D_bar_31 : decode prog_1_method_10_code 31 = .ok (.iload 5, 2) := by decide +kernel
theorem d_D_bar_33 : decode prog_1_method_10_code 33 = .ok (.iload_n 1, 1) := by decide +kernel
theorem d_D_bar_34 : decode prog_1_method_10_code 34 = .ok (.aload_n 0, 1) := by decide +kernel
theorem d_D_bar_35 : decode prog_1_method_10_code 35 = .ok (.getfield 12, 3) := by decide +kernel
theorem d_D_bar_38 : decode prog_1_method_10_code 38 = .ok (.iload_n 1, 1) := by decide +kernel
theorem d_D_bar_39 : decode prog_1_method_10_code 39 = .ok (.lload_n 2, 1) := by decide +kernel
theorem d_D_bar_40 : decode prog_1_method_10_code 40 = .ok (.iload 4, 2) := by decide +kernel
theorem d_D_bar_42 : decode prog_1_method_10_code 42 = .ok (.ifCond .ne 7, 3) := by decide +kernel
theorem d_D_bar_45 : decode prog_1_method_10_code 45 = .ok (.iconst 1, 1) := by decide +kernel
theorem d_D_bar_46 : decode prog_1_method_10_code 46 = .ok (.goto 4, 3) := by decide +kernel
theorem d_D_bar_49 : decode prog_1_method_10_code 49 = .ok (.iconst 0, 1) := by decide +kernel
theorem d_D_bar_50 : decode prog_1_method_10_code 50 = .ok (.invokevirtual 60, 3) := by decide +kernel
theorem d_D_bar_53 : decode prog_1_method_10_code 53 = .ok (.invokevirtual 112, 3) := by decide +kernel
theorem d_D_bar_56 : decode prog_1_method_10_code 56 = .ok (.iload 5, 2) := by decide +kernel
theorem d_D_bar_58 : decode prog_1_method_10_code 58 = .ok (.ireturn, 1) := by decide +kernel
theorem d_D_learn_0 : decode prog_1_method_11_code 0 = .ok (.aload_n 0, 1) := by decide +kernel
theorem d_D_learn_1 : decode prog_1_method_11_code 1 = .ok (.getfield 33, 3) := by decide +kernel
theorem d_D_learn_4 : decode prog_1_method_11_code 4 = .ok (.iload_n 1, 1) := by decide +kernel
theorem d_D_learn_5 : decode prog_1_method_11_code 5 = .ok (.iload_n 3, 1) := by decide +kernel
theorem d_D_learn_6 : decode prog_1_method_11_code 6 = .ok (.invokevirtual 116, 3) := by decide +kernel
theorem d_D_learn_9 : decode prog_1_method_11_code 9 = .ok (.ifCond .eq 15, 3) := by decide +kernel
theorem d_D_learn_12 : decode prog_1_method_11_code 12 = .ok (.aload_n 0, 1) := by decide +kernel
theorem d_D_learn_13 : decode prog_1_method_11_code 13 = .ok (.getfield 33, 3) := by decide +kernel
theorem d_D_learn_16 : decode prog_1_method_11_code 16 = .ok (.iload_n 2, 1) := by decide +kernel
theorem d_D_learn_17 : decode prog_1_method_11_code 17 = .ok (.iload_n 3, 1) := by decide +kernel
theorem d_D_learn_18 : decode prog_1_method_11_code 18 = .ok (.invokevirtual 116, 3) := by decide +kernel
theorem d_D_learn_21 : decode prog_1_method_11_code 21 = .ok (.ifCond .ne 5, 3) := by decide +kernel
theorem d_D_learn_24 : decode prog_1_method_11_code 24 = .ok (.iconst (-1), 1) := by decide +kernel
theorem d_D_learn_25 : decode prog_1_method_11_code 25 = .ok (.ireturn, 1) := by decide +kernel
theorem d_D_learn_26 : decode prog_1_method_11_code 26 = .ok (.aload_n 0, 1) := by decide +kernel
theorem d_D_learn_27 : decode prog_1_method_11_code 27 = .ok (.getfield 33, 3) := by decide +kernel
theorem d_D_learn_30 : decode prog_1_method_11_code 30 = .ok (.iconst (-1), 1) := by decide +kernel
theorem d_D_learn_31 : decode prog_1_method_11_code 31 = .ok (.lconst 0, 1) := by decide +kernel
theorem d_D_learn_32 : decode prog_1_method_11_code 32 = .ok (.invokevirtual 111, 3) := by decide +kernel
theorem d_D_learn_35 : decode prog_1_method_11_code 35 = .ok (.istore 4, 2) := by decide +kernel
theorem d_D_learn_37 : decode prog_1_method_11_code 37 = .ok (.iload 4, 2) := by decide +kernel
theorem d_D_learn_39 : decode prog_1_method_11_code 39 = .ok (.iconst (-1), 1) := by decide +kernel
theorem d_D_learn_40 : decode prog_1_method_11_code 40 = .ok (.if_icmp .ne 5, 3) := by decide +kernel
theorem d_D_learn_43 : decode prog_1_method_11_code 43 = .ok (.iconst (-1), 1) := by decide +kernel
theorem d_D_learn_44 : decode prog_1_method_11_code 44 = .ok (.ireturn, 1) := by decide +kernel
theorem d_D_learn_45 : decode prog_1_method_11_code 45 = .ok (.iconst 0, 1) := by decide +kernel
theorem d_D_learn_46 : decode prog_1_method_11_code 46 = .ok (.istore 5, 2) := by decide +kernel
theorem d_D_learn_48 : decode prog_1_method_11_code 48 = .ok (.iload 5, 2) := by decide +kernel
theorem d_D_learn_50 : decode prog_1_method_11_code 50 = .ok (.aload_n 0, 1) := by decide +kernel
theorem d_D_learn_51 : decode prog_1_method_11_code 51 = .ok (.getfield 12, 3) := by decide +kernel
theorem d_D_learn_54 : decode prog_1_method_11_code 54 = .ok (.invokevirtual 119, 3) := by decide +kernel
theorem d_D_learn_57 : decode prog_1_method_11_code 57 = .ok (.if_icmp .ge 54, 3) := by decide +kernel
theorem d_D_learn_60 : decode prog_1_method_11_code 60 = .ok (.aload_n 0, 1) := by decide +kernel
theorem d_D_learn_61 : decode prog_1_method_11_code 61 = .ok (.iload_n 1, 1) := by decide +kernel
theorem d_D_learn_62 : decode prog_1_method_11_code 62 = .ok (.iload 5, 2) := by decide +kernel
theorem d_D_learn_64 : decode prog_1_method_11_code 64 = .ok (.invokevirtual 120, 3) := by decide +kernel
theorem d_D_learn_67 : decode prog_1_method_11_code 67 = .ok (.lstore 6, 2) := by decide +kernel
theorem d_D_learn_69 : decode prog_1_method_11_code 69 = .ok (.aload_n 0, 1) := by decide +kernel
theorem d_D_learn_70 : decode prog_1_method_11_code 70 = .ok (.iload_n 2, 1) := by decide +kernel
theorem d_D_learn_71 : decode prog_1_method_11_code 71 = .ok (.iload 5, 2) := by decide +kernel
theorem d_D_learn_73 : decode prog_1_method_11_code 73 = .ok (.invokevirtual 120, 3) := by decide +kernel
theorem d_D_learn_76 : decode prog_1_method_11_code 76 = .ok (.lstore 8, 2) := by decide +kernel
theorem d_D_learn_78 : decode prog_1_method_11_code 78 = .ok (.aload_n 0, 1) := by decide +kernel
theorem d_D_learn_79 : decode prog_1_method_11_code 79 = .ok (.iload 4, 2) := by decide +kernel
theorem d_D_learn_81 : decode prog_1_method_11_code 81 = .ok (.iload 5, 2) := by decide +kernel
theorem d_D_learn_83 : decode prog_1_method_11_code 83 = .ok (.iload 5, 2) := by decide +kernel
theorem d_D_learn_85 : decode prog_1_method_11_code 85 = .ok (.iload_n 3, 1) := by decide +kernel
theorem d_D_learn_86 : decode prog_1_method_11_code 86 = .ok (.if_icmp .ne 11, 3) := by decide +kernel
theorem d_D_learn_89 : decode prog_1_method_11_code 89 = .ok (.lload 6, 2) := by decide +kernel
theorem d_D_learn_91 : decode prog_1_method_11_code 91 = .ok (.lload 8, 2) := by decide +kernel
theorem d_D_learn_93 : decode prog_1_method_11_code 93 = .ok (.lor, 1) := by decide +kernel
theorem d_D_learn_94 : decode prog_1_method_11_code 94 = .ok (.goto 8, 3) := by decide +kernel
theorem d_D_learn_97 : decode prog_1_method_11_code 97 = .ok (.lload 6, 2) := by decide +kernel
theorem d_D_learn_99 : decode prog_1_method_11_code 99 = .ok (.lload 8, 2) := by decide +kernel
theorem d_D_learn_101 : decode prog_1_method_11_code 101 = .ok (.land, 1) := by decide +kernel
theorem d_D_learn_102 : decode prog_1_method_11_code 102 = .ok (.invokevirtual 112, 3) := by decide +kernel
theorem d_D_learn_105 : decode prog_1_method_11_code 105 = .ok (.iinc 5 1, 3) := by decide +kernel
theorem d_D_learn_108 : decode prog_1_method_11_code 108 = .ok (.goto (-60), 3) := by decide +kernel
theorem d_D_learn_111 : decode prog_1_method_11_code 111 = .ok (.iload 4, 2) := by decide +kernel
theorem d_D_learn_113 : decode prog_1_method_11_code 113 = .ok (.ireturn, 1) := by decide +kernel
theorem d_C_holds_0 : decode prog_2_method_7_code 0 = .ok (.aload_n 0, 1) := by decide +kernel
theorem d_C_holds_1 : decode prog_2_method_7_code 1 = .ok (.iload_n 1, 1) := by decide +kernel
theorem d_C_holds_2 : decode prog_2_method_7_code 2 = .ok (.invokevirtual 29, 3) := by decide +kernel
theorem d_C_holds_5 : decode prog_2_method_7_code 5 = .ok (.ifCond .eq 30, 3) := by decide +kernel
theorem d_C_holds_8 : decode prog_2_method_7_code 8 = .ok (.iload_n 2, 1) := by decide +kernel
theorem d_C_holds_9 : decode prog_2_method_7_code 9 = .ok (.ifCond .lt 26, 3) := by decide +kernel
theorem d_C_holds_12 : decode prog_2_method_7_code 12 = .ok (.iload_n 2, 1) := by decide +kernel
theorem d_C_holds_13 : decode prog_2_method_7_code 13 = .ok (.bipush 16, 2) := by decide +kernel
theorem d_C_holds_15 : decode prog_2_method_7_code 15 = .ok (.if_icmp .ge 20, 3) := by decide +kernel
theorem d_C_holds_18 : decode prog_2_method_7_code 18 = .ok (.aload_n 0, 1) := by decide +kernel
theorem d_C_holds_19 : decode prog_2_method_7_code 19 = .ok (.getfield 9, 3) := by decide +kernel
theorem d_C_holds_22 : decode prog_2_method_7_code 22 = .ok (.iload_n 1, 1) := by decide +kernel
theorem d_C_holds_23 : decode prog_2_method_7_code 23 = .ok (.iaload, 1) := by decide +kernel
theorem d_C_holds_24 : decode prog_2_method_7_code 24 = .ok (.iload_n 2, 1) := by decide +kernel
theorem d_C_holds_25 : decode prog_2_method_7_code 25 = .ok (.iushr, 1) := by decide +kernel
theorem d_C_holds_26 : decode prog_2_method_7_code 26 = .ok (.iconst 1, 1) := by decide +kernel
theorem d_C_holds_27 : decode prog_2_method_7_code 27 = .ok (.iand, 1) := by decide +kernel
theorem d_C_holds_28 : decode prog_2_method_7_code 28 = .ok (.ifCond .eq 7, 3) := by decide +kernel
theorem d_C_holds_31 : decode prog_2_method_7_code 31 = .ok (.iconst 1, 1) := by decide +kernel
theorem d_C_holds_32 : decode prog_2_method_7_code 32 = .ok (.goto 4, 3) := by decide +kernel
theorem d_C_holds_35 : decode prog_2_method_7_code 35 = .ok (.iconst 0, 1) := by decide +kernel
theorem d_C_holds_36 : decode prog_2_method_7_code 36 = .ok (.ireturn, 1) := by decide +kernel
theorem d_N_size_0 : decode prog_3_method_2_code 0 = .ok (.aload_n 0, 1) := by decide +kernel
theorem d_N_size_1 : decode prog_3_method_2_code 1 = .ok (.getfield 15, 3) := by decide +kernel
theorem d_N_size_4 : decode prog_3_method_2_code 4 = .ok (.ireturn, 1) := by decide +kernel
theorem d_D_placesIn_0 : decode prog_1_method_29_code 0 = .ok (.aload_n 0, 1) := by decide +kernel
theorem d_D_placesIn_1 : decode prog_1_method_29_code 1 = .ok (.getfield 33, 3) := by decide +kernel
theorem d_D_placesIn_4 : decode prog_1_method_29_code 4 = .ok (.iload_n 1, 1) := by decide +kernel
theorem d_D_placesIn_5 : decode prog_1_method_29_code 5 = .ok (.iload_n 2, 1) := by decide +kernel
theorem d_D_placesIn_6 : decode prog_1_method_29_code 6 = .ok (.invokevirtual 116, 3) := by decide +kernel
theorem d_D_placesIn_9 : decode prog_1_method_29_code 9 = .ok (.ifCond .eq 15, 3) := by decide +kernel
theorem d_D_placesIn_12 : decode prog_1_method_29_code 12 = .ok (.aload_n 0, 1) := by decide +kernel
theorem d_D_placesIn_13 : decode prog_1_method_29_code 13 = .ok (.getfield 33, 3) := by decide +kernel
theorem d_D_placesIn_16 : decode prog_1_method_29_code 16 = .ok (.iload_n 1, 1) := by decide +kernel
theorem d_D_placesIn_17 : decode prog_1_method_29_code 17 = .ok (.iload_n 2, 1) := by decide +kernel
theorem d_D_placesIn_18 : decode prog_1_method_29_code 18 = .ok (.invokevirtual 132, 3) := by decide +kernel
theorem d_D_placesIn_21 : decode prog_1_method_29_code 21 = .ok (.goto 11, 3) := by decide +kernel
theorem d_D_placesIn_24 : decode prog_1_method_29_code 24 = .ok (.aload_n 0, 1) := by decide +kernel
theorem d_D_placesIn_25 : decode prog_1_method_29_code 25 = .ok (.getfield 12, 3) := by decide +kernel
theorem d_D_placesIn_28 : decode prog_1_method_29_code 28 = .ok (.iload_n 2, 1) := by decide +kernel
theorem d_D_placesIn_29 : decode prog_1_method_29_code 29 = .ok (.invokevirtual 52, 3) := by decide +kernel
theorem d_D_placesIn_32 : decode prog_1_method_29_code 32 = .ok (.lreturn, 1) := by decide +kernel
theorem d_C_placesOf_0 : decode prog_2_method_8_code 0 = .ok (.aload_n 0, 1) := by decide +kernel
theorem d_C_placesOf_1 : decode prog_2_method_8_code 1 = .ok (.iload_n 1, 1) := by decide +kernel
theorem d_C_placesOf_2 : decode prog_2_method_8_code 2 = .ok (.iload_n 2, 1) := by decide +kernel
theorem d_C_placesOf_3 : decode prog_2_method_8_code 3 = .ok (.invokevirtual 33, 3) := by decide +kernel
theorem d_C_placesOf_6 : decode prog_2_method_8_code 6 = .ok (.ifCond .eq 17, 3) := by decide +kernel
theorem d_C_placesOf_9 : decode prog_2_method_8_code 9 = .ok (.aload_n 0, 1) := by decide +kernel
theorem d_C_placesOf_10 : decode prog_2_method_8_code 10 = .ok (.getfield 15, 3) := by decide +kernel
theorem d_C_placesOf_13 : decode prog_2_method_8_code 13 = .ok (.iload_n 1, 1) := by decide +kernel
theorem d_C_placesOf_14 : decode prog_2_method_8_code 14 = .ok (.bipush 16, 2) := by decide +kernel
theorem d_C_placesOf_16 : decode prog_2_method_8_code 16 = .ok (.imul, 1) := by decide +kernel
theorem d_C_placesOf_17 : decode prog_2_method_8_code 17 = .ok (.iload_n 2, 1) := by decide +kernel
theorem d_C_placesOf_18 : decode prog_2_method_8_code 18 = .ok (.iadd, 1) := by decide +kernel
theorem d_C_placesOf_19 : decode prog_2_method_8_code 19 = .ok (.laload, 1) := by decide +kernel
theorem d_C_placesOf_20 : decode prog_2_method_8_code 20 = .ok (.goto 4, 3) := by decide +kernel
theorem d_C_placesOf_23 : decode prog_2_method_8_code 23 = .ok (.lconst 0, 1) := by decide +kernel
theorem d_C_placesOf_24 : decode prog_2_method_8_code 24 = .ok (.lreturn, 1) := by decide +kernel
theorem d_D_count_0 : decode prog_1_method_12_code 0 = .ok (.aload_n 0, 1) := by decide +kernel
theorem d_D_count_1 : decode prog_1_method_12_code 1 = .ok (.getfield 33, 3) := by decide +kernel
theorem d_D_count_4 : decode prog_1_method_12_code 4 = .ok (.invokevirtual 92, 3) := by decide +kernel
theorem d_D_count_7 : decode prog_1_method_12_code 7 = .ok (.ireturn, 1) := by decide +kernel
theorem d_D_terms_0 : decode prog_1_method_13_code 0 = .ok (.aload_n 0, 1) := by decide +kernel
theorem d_D_terms_1 : decode prog_1_method_13_code 1 = .ok (.getfield 33, 3) := by decide +kernel
theorem d_D_terms_4 : decode prog_1_method_13_code 4 = .ok (.iload_n 1, 1) := by decide +kernel
theorem d_D_terms_5 : decode prog_1_method_13_code 5 = .ok (.invokevirtual 124, 3) := by decide +kernel
theorem d_D_terms_8 : decode prog_1_method_13_code 8 = .ok (.ifCond .eq 14, 3) := by decide +kernel
theorem d_D_terms_11 : decode prog_1_method_13_code 11 = .ok (.aload_n 0, 1) := by decide +kernel
theorem d_D_terms_12 : decode prog_1_method_13_code 12 = .ok (.getfield 33, 3) := by decide +kernel
theorem d_D_terms_15 : decode prog_1_method_13_code 15 = .ok (.iload_n 1, 1) := by decide +kernel
theorem d_D_terms_16 : decode prog_1_method_13_code 16 = .ok (.invokevirtual 125, 3) := by decide +kernel
theorem d_D_terms_19 : decode prog_1_method_13_code 19 = .ok (.goto 4, 3) := by decide +kernel
theorem d_D_terms_22 : decode prog_1_method_13_code 22 = .ok (.iconst (-1), 1) := by decide +kernel
theorem d_D_terms_23 : decode prog_1_method_13_code 23 = .ok (.ireturn, 1) := by decide +kernel
theorem d_C_partsOf_0 : decode prog_2_method_9_code 0 = .ok (.aload_n 0, 1) := by decide +kernel
theorem d_C_partsOf_1 : decode prog_2_method_9_code 1 = .ok (.iload_n 1, 1) := by decide +kernel
theorem d_C_partsOf_2 : decode prog_2_method_9_code 2 = .ok (.invokevirtual 29, 3) := by decide +kernel
theorem d_C_partsOf_5 : decode prog_2_method_9_code 5 = .ok (.ifCond .eq 15, 3) := by decide +kernel
theorem d_C_partsOf_8 : decode prog_2_method_9_code 8 = .ok (.aload_n 0, 1) := by decide +kernel
theorem d_C_partsOf_9 : decode prog_2_method_9_code 9 = .ok (.getfield 9, 3) := by decide +kernel
theorem d_C_partsOf_12 : decode prog_2_method_9_code 12 = .ok (.iload_n 1, 1) := by decide +kernel
theorem d_C_partsOf_13 : decode prog_2_method_9_code 13 = .ok (.iaload, 1) := by decide +kernel
theorem d_C_partsOf_14 : decode prog_2_method_9_code 14 = .ok (.invokestatic 37, 3) := by decide +kernel
theorem d_C_partsOf_17 : decode prog_2_method_9_code 17 = .ok (.goto 4, 3) := by decide +kernel
theorem d_C_partsOf_20 : decode prog_2_method_9_code 20 = .ok (.iconst 0, 1) := by decide +kernel
theorem d_C_partsOf_21 : decode prog_2_method_9_code 21 = .ok (.ireturn, 1) := by decide +kernel
theorem d_JI_bitCount_0 : decode prog_9_method_49_code 0 = .ok (.iload_n 0, 1) := by decide +kernel
theorem d_JI_bitCount_1 : decode prog_9_method_49_code 1 = .ok (.iload_n 0, 1) := by decide +kernel
theorem d_JI_bitCount_2 : decode prog_9_method_49_code 2 = .ok (.iconst 1, 1) := by decide +kernel
theorem d_JI_bitCount_3 : decode prog_9_method_49_code 3 = .ok (.iushr, 1) := by decide +kernel
theorem d_JI_bitCount_4 : decode prog_9_method_49_code 4 = .ok (.ldc_w 265, 3) := by decide +kernel
theorem d_JI_bitCount_7 : decode prog_9_method_49_code 7 = .ok (.iand, 1) := by decide +kernel
theorem d_JI_bitCount_8 : decode prog_9_method_49_code 8 = .ok (.isub, 1) := by decide +kernel
theorem d_JI_bitCount_9 : decode prog_9_method_49_code 9 = .ok (.istore_n 0, 1) := by decide +kernel
theorem d_JI_bitCount_10 : decode prog_9_method_49_code 10 = .ok (.iload_n 0, 1) := by decide +kernel
theorem d_JI_bitCount_11 : decode prog_9_method_49_code 11 = .ok (.ldc_w 266, 3) := by decide +kernel
theorem d_JI_bitCount_14 : decode prog_9_method_49_code 14 = .ok (.iand, 1) := by decide +kernel
theorem d_JI_bitCount_15 : decode prog_9_method_49_code 15 = .ok (.iload_n 0, 1) := by decide +kernel
theorem d_JI_bitCount_16 : decode prog_9_method_49_code 16 = .ok (.iconst 2, 1) := by decide +kernel
theorem d_JI_bitCount_17 : decode prog_9_method_49_code 17 = .ok (.iushr, 1) := by decide +kernel
theorem d_JI_bitCount_18 : decode prog_9_method_49_code 18 = .ok (.ldc_w 266, 3) := by decide +kernel
theorem d_JI_bitCount_21 : decode prog_9_method_49_code 21 = .ok (.iand, 1) := by decide +kernel
theorem d_JI_bitCount_22 : decode prog_9_method_49_code 22 = .ok (.iadd, 1) := by decide +kernel
theorem d_JI_bitCount_23 : decode prog_9_method_49_code 23 = .ok (.istore_n 0, 1) := by decide +kernel
theorem d_JI_bitCount_24 : decode prog_9_method_49_code 24 = .ok (.iload_n 0, 1) := by decide +kernel
theorem d_JI_bitCount_25 : decode prog_9_method_49_code 25 = .ok (.iload_n 0, 1) := by decide +kernel
theorem d_JI_bitCount_26 : decode prog_9_method_49_code 26 = .ok (.iconst 4, 1) := by decide +kernel
theorem d_JI_bitCount_27 : decode prog_9_method_49_code 27 = .ok (.iushr, 1) := by decide +kernel
theorem d_JI_bitCount_28 : decode prog_9_method_49_code 28 = .ok (.iadd, 1) := by decide +kernel
theorem d_JI_bitCount_29 : decode prog_9_method_49_code 29 = .ok (.ldc_w 267, 3) := by decide +kernel
theorem d_JI_bitCount_32 : decode prog_9_method_49_code 32 = .ok (.iand, 1) := by decide +kernel
theorem d_JI_bitCount_33 : decode prog_9_method_49_code 33 = .ok (.istore_n 0, 1) := by decide +kernel
theorem d_JI_bitCount_34 : decode prog_9_method_49_code 34 = .ok (.iload_n 0, 1) := by decide +kernel
theorem d_JI_bitCount_35 : decode prog_9_method_49_code 35 = .ok (.iload_n 0, 1) := by decide +kernel
theorem d_JI_bitCount_36 : decode prog_9_method_49_code 36 = .ok (.bipush 8, 2) := by decide +kernel
theorem d_JI_bitCount_38 : decode prog_9_method_49_code 38 = .ok (.iushr, 1) := by decide +kernel
theorem d_JI_bitCount_39 : decode prog_9_method_49_code 39 = .ok (.iadd, 1) := by decide +kernel
theorem d_JI_bitCount_40 : decode prog_9_method_49_code 40 = .ok (.istore_n 0, 1) := by decide +kernel
theorem d_JI_bitCount_41 : decode prog_9_method_49_code 41 = .ok (.iload_n 0, 1) := by decide +kernel
theorem d_JI_bitCount_42 : decode prog_9_method_49_code 42 = .ok (.iload_n 0, 1) := by decide +kernel
theorem d_JI_bitCount_43 : decode prog_9_method_49_code 43 = .ok (.bipush 16, 2) := by decide +kernel
theorem d_JI_bitCount_45 : decode prog_9_method_49_code 45 = .ok (.iushr, 1) := by decide +kernel
theorem d_JI_bitCount_46 : decode prog_9_method_49_code 46 = .ok (.iadd, 1) := by decide +kernel
theorem d_JI_bitCount_47 : decode prog_9_method_49_code 47 = .ok (.istore_n 0, 1) := by decide +kernel
theorem d_JI_bitCount_48 : decode prog_9_method_49_code 48 = .ok (.iload_n 0, 1) := by decide +kernel
theorem d_JI_bitCount_49 : decode prog_9_method_49_code 49 = .ok (.bipush 63, 2) := by decide +kernel
theorem d_JI_bitCount_51 : decode prog_9_method_49_code 51 = .ok (.iand, 1) := by decide +kernel
theorem d_JI_bitCount_52 : decode prog_9_method_49_code 52 = .ok (.ireturn, 1) := by decide +kernel
theorem d_D_part_0 : decode prog_1_method_14_code 0 = .ok (.aload_n 0, 1) := by decide +kernel
theorem d_D_part_1 : decode prog_1_method_14_code 1 = .ok (.getfield 33, 3) := by decide +kernel
theorem d_D_part_4 : decode prog_1_method_14_code 4 = .ok (.iload_n 1, 1) := by decide +kernel
theorem d_D_part_5 : decode prog_1_method_14_code 5 = .ok (.iload_n 2, 1) := by decide +kernel
theorem d_D_part_6 : decode prog_1_method_14_code 6 = .ok (.invokevirtual 128, 3) := by decide +kernel
theorem d_D_part_9 : decode prog_1_method_14_code 9 = .ok (.istore 4, 2) := by decide +kernel
theorem d_D_part_11 : decode prog_1_method_14_code 11 = .ok (.iload 4, 2) := by decide +kernel
theorem d_D_part_13 : decode prog_1_method_14_code 13 = .ok (.iconst (-1), 1) := by decide +kernel
theorem d_D_part_14 : decode prog_1_method_14_code 14 = .ok (.if_icmp .ne 5, 3) := by decide +kernel
theorem d_D_part_17 : decode prog_1_method_14_code 17 = .ok (.iconst (-1), 1) := by decide +kernel
theorem d_D_part_18 : decode prog_1_method_14_code 18 = .ok (.ireturn, 1) := by decide +kernel
theorem d_D_part_19 : decode prog_1_method_14_code 19 = .ok (.aload_n 0, 1) := by decide +kernel
theorem d_D_part_20 : decode prog_1_method_14_code 20 = .ok (.iload 4, 2) := by decide +kernel
theorem d_D_part_22 : decode prog_1_method_14_code 22 = .ok (.aload_n 0, 1) := by decide +kernel
theorem d_D_part_23 : decode prog_1_method_14_code 23 = .ok (.getfield 33, 3) := by decide +kernel
theorem d_D_part_26 : decode prog_1_method_14_code 26 = .ok (.iload_n 1, 1) := by decide +kernel
theorem d_D_part_27 : decode prog_1_method_14_code 27 = .ok (.iload 4, 2) := by decide +kernel
theorem d_D_part_29 : decode prog_1_method_14_code 29 = .ok (.invokevirtual 132, 3) := by decide +kernel
theorem d_D_part_32 : decode prog_1_method_14_code 32 = .ok (.iload_n 3, 1) := by decide +kernel
theorem d_D_part_33 : decode prog_1_method_14_code 33 = .ok (.invokevirtual 77, 3) := by decide +kernel
theorem d_D_part_36 : decode prog_1_method_14_code 36 = .ok (.ireturn, 1) := by decide +kernel
theorem d_C_nameAt_0 : decode prog_2_method_10_code 0 = .ok (.iconst 0, 1) := by decide +kernel
theorem d_C_nameAt_1 : decode prog_2_method_10_code 1 = .ok (.istore_n 3, 1) := by decide +kernel
theorem d_C_nameAt_2 : decode prog_2_method_10_code 2 = .ok (.iload_n 3, 1) := by decide +kernel
theorem d_C_nameAt_3 : decode prog_2_method_10_code 3 = .ok (.bipush 16, 2) := by decide +kernel
theorem d_C_nameAt_5 : decode prog_2_method_10_code 5 = .ok (.if_icmp .ge 30, 3) := by decide +kernel
theorem d_C_nameAt_8 : decode prog_2_method_10_code 8 = .ok (.aload_n 0, 1) := by decide +kernel
theorem d_C_nameAt_9 : decode prog_2_method_10_code 9 = .ok (.iload_n 1, 1) := by decide +kernel
theorem d_C_nameAt_10 : decode prog_2_method_10_code 10 = .ok (.iload_n 3, 1) := by decide +kernel
theorem d_C_nameAt_11 : decode prog_2_method_10_code 11 = .ok (.invokevirtual 33, 3) := by decide +kernel
theorem d_C_nameAt_14 : decode prog_2_method_10_code 14 = .ok (.ifCond .eq 15, 3) := by decide +kernel
theorem d_C_nameAt_17 : decode prog_2_method_10_code 17 = .ok (.aload_n 0, 1) := by decide +kernel
theorem d_C_nameAt_18 : decode prog_2_method_10_code 18 = .ok (.iload_n 1, 1) := by decide +kernel
theorem d_C_nameAt_19 : decode prog_2_method_10_code 19 = .ok (.iload_n 3, 1) := by decide +kernel
theorem d_C_nameAt_20 : decode prog_2_method_10_code 20 = .ok (.invokevirtual 43, 3) := by decide +kernel
theorem d_C_nameAt_23 : decode prog_2_method_10_code 23 = .ok (.iload_n 2, 1) := by decide +kernel
theorem d_C_nameAt_24 : decode prog_2_method_10_code 24 = .ok (.if_icmp .ne 5, 3) := by decide +kernel
theorem d_C_nameAt_27 : decode prog_2_method_10_code 27 = .ok (.iload_n 3, 1) := by decide +kernel
theorem d_C_nameAt_28 : decode prog_2_method_10_code 28 = .ok (.ireturn, 1) := by decide +kernel
theorem d_C_nameAt_29 : decode prog_2_method_10_code 29 = .ok (.iinc 3 1, 3) := by decide +kernel
theorem d_C_nameAt_32 : decode prog_2_method_10_code 32 = .ok (.goto (-30), 3) := by decide +kernel
theorem d_C_nameAt_35 : decode prog_2_method_10_code 35 = .ok (.iconst (-1), 1) := by decide +kernel
theorem d_C_nameAt_36 : decode prog_2_method_10_code 36 = .ok (.ireturn, 1) := by decide +kernel
theorem d_C_indexOf_0 : decode prog_2_method_11_code 0 = .ok (.aload_n 0, 1) := by decide +kernel
theorem d_C_indexOf_1 : decode prog_2_method_11_code 1 = .ok (.iload_n 1, 1) := by decide +kernel
theorem d_C_indexOf_2 : decode prog_2_method_11_code 2 = .ok (.iload_n 2, 1) := by decide +kernel
theorem d_C_indexOf_3 : decode prog_2_method_11_code 3 = .ok (.invokevirtual 33, 3) := by decide +kernel
theorem d_C_indexOf_6 : decode prog_2_method_11_code 6 = .ok (.ifCond .eq 21, 3) := by decide +kernel
theorem d_C_indexOf_9 : decode prog_2_method_11_code 9 = .ok (.aload_n 0, 1) := by decide +kernel
theorem d_C_indexOf_10 : decode prog_2_method_11_code 10 = .ok (.getfield 9, 3) := by decide +kernel
theorem d_C_indexOf_13 : decode prog_2_method_11_code 13 = .ok (.iload_n 1, 1) := by decide +kernel
theorem d_C_indexOf_14 : decode prog_2_method_11_code 14 = .ok (.iaload, 1) := by decide +kernel
theorem d_C_indexOf_15 : decode prog_2_method_11_code 15 = .ok (.iconst 1, 1) := by decide +kernel
theorem d_C_indexOf_16 : decode prog_2_method_11_code 16 = .ok (.iload_n 2, 1) := by decide +kernel
theorem d_C_indexOf_17 : decode prog_2_method_11_code 17 = .ok (.ishl, 1) := by decide +kernel
theorem d_C_indexOf_18 : decode prog_2_method_11_code 18 = .ok (.iconst 1, 1) := by decide +kernel
theorem d_C_indexOf_19 : decode prog_2_method_11_code 19 = .ok (.isub, 1) := by decide +kernel
theorem d_C_indexOf_20 : decode prog_2_method_11_code 20 = .ok (.iand, 1) := by decide +kernel
theorem d_C_indexOf_21 : decode prog_2_method_11_code 21 = .ok (.invokestatic 37, 3) := by decide +kernel
theorem d_C_indexOf_24 : decode prog_2_method_11_code 24 = .ok (.goto 4, 3) := by decide +kernel
theorem d_C_indexOf_27 : decode prog_2_method_11_code 27 = .ok (.iconst (-1), 1) := by decide +kernel
theorem d_C_indexOf_28 : decode prog_2_method_11_code 28 = .ok (.ireturn, 1) := by decide +kernel
theorem d_D_partSet_0 : decode prog_1_method_15_code 0 = .ok (.aload_n 0, 1) := by decide +kernel
theorem d_D_partSet_1 : decode prog_1_method_15_code 1 = .ok (.getfield 33, 3) := by decide +kernel
theorem d_D_partSet_4 : decode prog_1_method_15_code 4 = .ok (.iload_n 1, 1) := by decide +kernel
theorem d_D_partSet_5 : decode prog_1_method_15_code 5 = .ok (.iload_n 2, 1) := by decide +kernel
theorem d_D_partSet_6 : decode prog_1_method_15_code 6 = .ok (.invokevirtual 128, 3) := by decide +kernel
theorem d_D_partSet_9 : decode prog_1_method_15_code 9 = .ok (.istore_n 3, 1) := by decide +kernel
theorem d_D_partSet_10 : decode prog_1_method_15_code 10 = .ok (.iload_n 3, 1) := by decide +kernel
theorem d_D_partSet_11 : decode prog_1_method_15_code 11 = .ok (.iconst (-1), 1) := by decide +kernel
theorem d_D_partSet_12 : decode prog_1_method_15_code 12 = .ok (.if_icmp .ne 5, 3) := by decide +kernel
theorem d_D_partSet_15 : decode prog_1_method_15_code 15 = .ok (.lconst 0, 1) := by decide +kernel
theorem d_D_partSet_16 : decode prog_1_method_15_code 16 = .ok (.lreturn, 1) := by decide +kernel
theorem d_D_partSet_17 : decode prog_1_method_15_code 17 = .ok (.aload_n 0, 1) := by decide +kernel
theorem d_D_partSet_18 : decode prog_1_method_15_code 18 = .ok (.getfield 12, 3) := by decide +kernel
theorem d_D_partSet_21 : decode prog_1_method_15_code 21 = .ok (.iload_n 3, 1) := by decide +kernel
theorem d_D_partSet_22 : decode prog_1_method_15_code 22 = .ok (.aload_n 0, 1) := by decide +kernel
theorem d_D_partSet_23 : decode prog_1_method_15_code 23 = .ok (.getfield 33, 3) := by decide +kernel
theorem d_D_partSet_26 : decode prog_1_method_15_code 26 = .ok (.iload_n 1, 1) := by decide +kernel
theorem d_D_partSet_27 : decode prog_1_method_15_code 27 = .ok (.iload_n 3, 1) := by decide +kernel
theorem d_D_partSet_28 : decode prog_1_method_15_code 28 = .ok (.invokevirtual 132, 3) := by decide +kernel
theorem d_D_partSet_31 : decode prog_1_method_15_code 31 = .ok (.invokevirtual 81, 3) := by decide +kernel
theorem d_D_partSet_34 : decode prog_1_method_15_code 34 = .ok (.lreturn, 1) := by decide +kernel
theorem d_D_choose_0 : decode prog_1_method_16_code 0 = .ok (.aload_n 0, 1) := by decide +kernel
theorem d_D_choose_1 : decode prog_1_method_16_code 1 = .ok (.getfield 19, 3) := by decide +kernel
theorem d_D_choose_4 : decode prog_1_method_16_code 4 = .ok (.iload_n 1, 1) := by decide +kernel
theorem d_D_choose_5 : decode prog_1_method_16_code 5 = .ok (.invokevirtual 67, 3) := by decide +kernel
theorem d_D_choose_8 : decode prog_1_method_16_code 8 = .ok (.ifCond .ne 5, 3) := by decide +kernel
theorem d_D_choose_11 : decode prog_1_method_16_code 11 = .ok (.iconst 0, 1) := by decide +kernel
theorem d_D_choose_12 : decode prog_1_method_16_code 12 = .ok (.ireturn, 1) := by decide +kernel
theorem d_D_choose_13 : decode prog_1_method_16_code 13 = .ok (.aload_n 0, 1) := by decide +kernel
theorem d_D_choose_14 : decode prog_1_method_16_code 14 = .ok (.aload_n 0, 1) := by decide +kernel
theorem d_D_choose_15 : decode prog_1_method_16_code 15 = .ok (.getfield 19, 3) := by decide +kernel
theorem d_D_choose_18 : decode prog_1_method_16_code 18 = .ok (.iload_n 1, 1) := by decide +kernel
theorem d_D_choose_19 : decode prog_1_method_16_code 19 = .ok (.invokevirtual 68, 3) := by decide +kernel
theorem d_D_choose_22 : decode prog_1_method_16_code 22 = .ok (.aload_n 0, 1) := by decide +kernel
theorem d_D_choose_23 : decode prog_1_method_16_code 23 = .ok (.getfield 19, 3) := by decide +kernel
theorem d_D_choose_26 : decode prog_1_method_16_code 26 = .ok (.iload_n 1, 1) := by decide +kernel
theorem d_D_choose_27 : decode prog_1_method_16_code 27 = .ok (.invokevirtual 71, 3) := by decide +kernel
theorem d_D_choose_30 : decode prog_1_method_16_code 30 = .ok (.invokevirtual 134, 3) := by decide +kernel
theorem d_D_choose_33 : decode prog_1_method_16_code 33 = .ok (.iconst 1, 1) := by decide +kernel
theorem d_D_choose_34 : decode prog_1_method_16_code 34 = .ok (.ireturn, 1) := by decide +kernel
theorem d_D_narrowChoice_0 : decode prog_1_method_30_code 0 = .ok (.aload_n 0, 1) := by decide +kernel
theorem d_D_narrowChoice_1 : decode prog_1_method_30_code 1 = .ok (.getfield 12, 3) := by decide +kernel
theorem d_D_narrowChoice_4 : decode prog_1_method_30_code 4 = .ok (.iload_n 1, 1) := by decide +kernel
theorem d_D_narrowChoice_5 : decode prog_1_method_30_code 5 = .ok (.invokevirtual 56, 3) := by decide +kernel
theorem d_D_narrowChoice_8 : decode prog_1_method_30_code 8 = .ok (.ifCond .eq 13, 3) := by decide +kernel
theorem d_D_narrowChoice_11 : decode prog_1_method_30_code 11 = .ok (.aload_n 0, 1) := by decide +kernel
theorem d_D_narrowChoice_12 : decode prog_1_method_30_code 12 = .ok (.getfield 37, 3) := by decide +kernel
theorem d_D_narrowChoice_15 : decode prog_1_method_30_code 15 = .ok (.iload_n 1, 1) := by decide +kernel
theorem d_D_narrowChoice_16 : decode prog_1_method_30_code 16 = .ok (.dup2, 1) := by decide +kernel
theorem d_D_narrowChoice_17 : decode prog_1_method_30_code 17 = .ok (.laload, 1) := by decide +kernel
theorem d_D_narrowChoice_18 : decode prog_1_method_30_code 18 = .ok (.lload_n 2, 1) := by decide +kernel
theorem d_D_narrowChoice_19 : decode prog_1_method_30_code 19 = .ok (.land, 1) := by decide +kernel
theorem d_D_narrowChoice_20 : decode prog_1_method_30_code 20 = .ok (.lastore, 1) := by decide +kernel
theorem d_D_narrowChoice_21 : decode prog_1_method_30_code 21 = .ok (.return_, 1) := by decide +kernel
theorem d_D_forget_0 : decode prog_1_method_17_code 0 = .ok (.iconst 0, 1) := by decide +kernel
theorem d_D_forget_1 : decode prog_1_method_17_code 1 = .ok (.istore_n 1, 1) := by decide +kernel
theorem d_D_forget_2 : decode prog_1_method_17_code 2 = .ok (.iload_n 1, 1) := by decide +kernel
theorem d_D_forget_3 : decode prog_1_method_17_code 3 = .ok (.aload_n 0, 1) := by decide +kernel
theorem d_D_forget_4 : decode prog_1_method_17_code 4 = .ok (.getfield 12, 3) := by decide +kernel
theorem d_D_forget_7 : decode prog_1_method_17_code 7 = .ok (.invokevirtual 119, 3) := by decide +kernel
theorem d_D_forget_10 : decode prog_1_method_17_code 10 = .ok (.if_icmp .ge 23, 3) := by decide +kernel
theorem d_D_forget_13 : decode prog_1_method_17_code 13 = .ok (.aload_n 0, 1) := by decide +kernel
theorem d_D_forget_14 : decode prog_1_method_17_code 14 = .ok (.getfield 37, 3) := by decide +kernel
theorem d_D_forget_17 : decode prog_1_method_17_code 17 = .ok (.iload_n 1, 1) := by decide +kernel
theorem d_D_forget_18 : decode prog_1_method_17_code 18 = .ok (.aload_n 0, 1) := by decide +kernel
theorem d_D_forget_19 : decode prog_1_method_17_code 19 = .ok (.getfield 12, 3) := by decide +kernel
theorem d_D_forget_22 : decode prog_1_method_17_code 22 = .ok (.iload_n 1, 1) := by decide +kernel
theorem d_D_forget_23 : decode prog_1_method_17_code 23 = .ok (.invokevirtual 52, 3) := by decide +kernel
theorem d_D_forget_26 : decode prog_1_method_17_code 26 = .ok (.lastore, 1) := by decide +kernel
theorem d_D_forget_27 : decode prog_1_method_17_code 27 = .ok (.iinc 1 1, 3) := by decide +kernel
theorem d_D_forget_30 : decode prog_1_method_17_code 30 = .ok (.goto (-28), 3) := by decide +kernel
theorem d_D_forget_33 : decode prog_1_method_17_code 33 = .ok (.return_, 1) := by decide +kernel
theorem d_D_state_0 : decode prog_1_method_18_code 0 = .ok (.aload_n 0, 1) := by decide +kernel
theorem d_D_state_1 : decode prog_1_method_18_code 1 = .ok (.getfield 33, 3) := by decide +kernel
theorem d_D_state_4 : decode prog_1_method_18_code 4 = .ok (.iload_n 1, 1) := by decide +kernel
theorem d_D_state_5 : decode prog_1_method_18_code 5 = .ok (.invokevirtual 124, 3) := by decide +kernel
theorem d_D_state_8 : decode prog_1_method_18_code 8 = .ok (.ifCond .eq 11, 3) := by decide +kernel
theorem d_D_state_11 : decode prog_1_method_18_code 11 = .ok (.aload_n 0, 1) := by decide +kernel
theorem d_D_state_12 : decode prog_1_method_18_code 12 = .ok (.iload_n 1, 1) := by decide +kernel
theorem d_D_state_13 : decode prog_1_method_18_code 13 = .ok (.invokevirtual 138, 3) := by decide +kernel
theorem d_D_state_16 : decode prog_1_method_18_code 16 = .ok (.goto 5, 3) := by decide +kernel
theorem d_D_state_19 : decode prog_1_method_18_code 19 = .ok (.bipush (-2), 2) := by decide +kernel
theorem d_D_state_21 : decode prog_1_method_18_code 21 = .ok (.ireturn, 1) := by decide +kernel
theorem d_D_stateOf_0 : decode prog_1_method_32_code 0 = .ok (.iconst 0, 1) := by decide +kernel
theorem d_D_stateOf_1 : decode prog_1_method_32_code 1 = .ok (.istore_n 2, 1) := by decide +kernel
theorem d_D_stateOf_2 : decode prog_1_method_32_code 2 = .ok (.iconst 0, 1) := by decide +kernel
theorem d_D_stateOf_3 : decode prog_1_method_32_code 3 = .ok (.istore_n 3, 1) := by decide +kernel
theorem d_D_stateOf_4 : decode prog_1_method_32_code 4 = .ok (.iload_n 3, 1) := by decide +kernel
theorem d_D_stateOf_5 : decode prog_1_method_32_code 5 = .ok (.aload_n 0, 1) := by decide +kernel
theorem d_D_stateOf_6 : decode prog_1_method_32_code 6 = .ok (.getfield 12, 3) := by decide +kernel
theorem d_D_stateOf_9 : decode prog_1_method_32_code 9 = .ok (.invokevirtual 119, 3) := by decide +kernel
theorem d_D_stateOf_12 : decode prog_1_method_32_code 12 = .ok (.if_icmp .ge 45, 3) := by decide +kernel
theorem d_D_stateOf_15 : decode prog_1_method_32_code 15 = .ok (.aload_n 0, 1) := by decide +kernel
theorem d_D_stateOf_16 : decode prog_1_method_32_code 16 = .ok (.getfield 33, 3) := by decide +kernel
theorem d_D_stateOf_19 : decode prog_1_method_32_code 19 = .ok (.iload_n 1, 1) := by decide +kernel
theorem d_D_stateOf_20 : decode prog_1_method_32_code 20 = .ok (.iload_n 3, 1) := by decide +kernel
theorem d_D_stateOf_21 : decode prog_1_method_32_code 21 = .ok (.invokevirtual 116, 3) := by decide +kernel
theorem d_D_stateOf_24 : decode prog_1_method_32_code 24 = .ok (.ifCond .eq 27, 3) := by decide +kernel
theorem d_D_stateOf_27 : decode prog_1_method_32_code 27 = .ok (.aload_n 0, 1) := by decide +kernel
theorem d_D_stateOf_28 : decode prog_1_method_32_code 28 = .ok (.iload_n 1, 1) := by decide +kernel
theorem d_D_stateOf_29 : decode prog_1_method_32_code 29 = .ok (.iload_n 3, 1) := by decide +kernel
theorem d_D_stateOf_30 : decode prog_1_method_32_code 30 = .ok (.invokevirtual 207, 3) := by decide +kernel
theorem d_D_stateOf_33 : decode prog_1_method_32_code 33 = .ok (.istore 4, 2) := by decide +kernel
theorem d_D_stateOf_35 : decode prog_1_method_32_code 35 = .ok (.iload 4, 2) := by decide +kernel
theorem d_D_stateOf_37 : decode prog_1_method_32_code 37 = .ok (.iconst (-1), 1) := by decide +kernel
theorem d_D_stateOf_38 : decode prog_1_method_32_code 38 = .ok (.if_icmp .ne 5, 3) := by decide +kernel
theorem d_D_stateOf_41 : decode prog_1_method_32_code 41 = .ok (.iconst (-1), 1) := by decide +kernel
theorem d_D_stateOf_42 : decode prog_1_method_32_code 42 = .ok (.ireturn, 1) := by decide +kernel
theorem d_D_stateOf_43 : decode prog_1_method_32_code 43 = .ok (.iload 4, 2) := by decide +kernel
theorem d_D_stateOf_45 : decode prog_1_method_32_code 45 = .ok (.ifCond .ne 6, 3) := by decide +kernel
theorem d_D_stateOf_48 : decode prog_1_method_32_code 48 = .ok (.iinc 2 1, 3) := by decide +kernel
theorem d_D_stateOf_51 : decode prog_1_method_32_code 51 = .ok (.iinc 3 1, 3) := by decide +kernel
theorem d_D_stateOf_54 : decode prog_1_method_32_code 54 = .ok (.goto (-50), 3) := by decide +kernel
theorem d_D_stateOf_57 : decode prog_1_method_32_code 57 = .ok (.iload_n 2, 1) := by decide +kernel
theorem d_D_stateOf_58 : decode prog_1_method_32_code 58 = .ok (.ifCond .ne 5, 3) := by decide +kernel
theorem d_D_stateOf_61 : decode prog_1_method_32_code 61 = .ok (.iconst 1, 1) := by decide +kernel
theorem d_D_stateOf_62 : decode prog_1_method_32_code 62 = .ok (.ireturn, 1) := by decide +kernel
theorem d_D_stateOf_63 : decode prog_1_method_32_code 63 = .ok (.iload_n 2, 1) := by decide +kernel
theorem d_D_stateOf_64 : decode prog_1_method_32_code 64 = .ok (.iconst 1, 1) := by decide +kernel
theorem d_D_stateOf_65 : decode prog_1_method_32_code 65 = .ok (.if_icmp .ne 7, 3) := by decide +kernel
theorem d_D_stateOf_68 : decode prog_1_method_32_code 68 = .ok (.iconst 2, 1) := by decide +kernel
theorem d_D_stateOf_69 : decode prog_1_method_32_code 69 = .ok (.goto 4, 3) := by decide +kernel
theorem d_D_stateOf_72 : decode prog_1_method_32_code 72 = .ok (.iconst 0, 1) := by decide +kernel
theorem d_D_stateOf_73 : decode prog_1_method_32_code 73 = .ok (.ireturn, 1) := by decide +kernel
theorem d_D_relationToChoice_0 : decode prog_1_method_31_code 0 = .ok (.aload_n 0, 1) := by decide +kernel
theorem d_D_relationToChoice_1 : decode prog_1_method_31_code 1 = .ok (.getfield 12, 3) := by decide +kernel
theorem d_D_relationToChoice_4 : decode prog_1_method_31_code 4 = .ok (.iload_n 2, 1) := by decide +kernel
theorem d_D_relationToChoice_5 : decode prog_1_method_31_code 5 = .ok (.invokevirtual 56, 3) := by decide +kernel
theorem d_D_relationToChoice_8 : decode prog_1_method_31_code 8 = .ok (.ifCond .eq 24, 3) := by decide +kernel
theorem d_D_relationToChoice_11 : decode prog_1_method_31_code 11 = .ok (.aload_n 0, 1) := by decide +kernel
theorem d_D_relationToChoice_12 : decode prog_1_method_31_code 12 = .ok (.getfield 37, 3) := by decide +kernel
theorem d_D_relationToChoice_15 : decode prog_1_method_31_code 15 = .ok (.iload_n 2, 1) := by decide +kernel
theorem d_D_relationToChoice_16 : decode prog_1_method_31_code 16 = .ok (.laload, 1) := by decide +kernel
theorem d_D_relationToChoice_17 : decode prog_1_method_31_code 17 = .ok (.aload_n 0, 1) := by decide +kernel
theorem d_D_relationToChoice_18 : decode prog_1_method_31_code 18 = .ok (.getfield 33, 3) := by decide +kernel
theorem d_D_relationToChoice_21 : decode prog_1_method_31_code 21 = .ok (.iload_n 1, 1) := by decide +kernel
theorem d_D_relationToChoice_22 : decode prog_1_method_31_code 22 = .ok (.iload_n 2, 1) := by decide +kernel
theorem d_D_relationToChoice_23 : decode prog_1_method_31_code 23 = .ok (.invokevirtual 132, 3) := by decide +kernel
theorem d_D_relationToChoice_26 : decode prog_1_method_31_code 26 = .ok (.invokestatic 73, 3) := by decide +kernel
theorem d_D_relationToChoice_29 : decode prog_1_method_31_code 29 = .ok (.goto 4, 3) := by decide +kernel
theorem d_D_relationToChoice_32 : decode prog_1_method_31_code 32 = .ok (.iconst 0, 1) := by decide +kernel
theorem d_D_relationToChoice_33 : decode prog_1_method_31_code 33 = .ok (.ireturn, 1) := by decide +kernel
theorem d_D_forced_0 : decode prog_1_method_19_code 0 = .ok (.aload_n 0, 1) := by decide +kernel
theorem d_D_forced_1 : decode prog_1_method_19_code 1 = .ok (.getfield 33, 3) := by decide +kernel
theorem d_D_forced_4 : decode prog_1_method_19_code 4 = .ok (.iload_n 1, 1) := by decide +kernel
theorem d_D_forced_5 : decode prog_1_method_19_code 5 = .ok (.invokevirtual 124, 3) := by decide +kernel
theorem d_D_forced_8 : decode prog_1_method_19_code 8 = .ok (.ifCond .eq 12, 3) := by decide +kernel
theorem d_D_forced_11 : decode prog_1_method_19_code 11 = .ok (.aload_n 0, 1) := by decide +kernel
theorem d_D_forced_12 : decode prog_1_method_19_code 12 = .ok (.iload_n 1, 1) := by decide +kernel
theorem d_D_forced_13 : decode prog_1_method_19_code 13 = .ok (.invokevirtual 138, 3) := by decide +kernel
theorem d_D_forced_16 : decode prog_1_method_19_code 16 = .ok (.iconst 2, 1) := by decide +kernel
theorem d_D_forced_17 : decode prog_1_method_19_code 17 = .ok (.if_icmp .eq 5, 3) := by decide +kernel
theorem d_D_forced_20 : decode prog_1_method_19_code 20 = .ok (.iconst (-1), 1) := by decide +kernel
theorem d_D_forced_21 : decode prog_1_method_19_code 21 = .ok (.ireturn, 1) := by decide +kernel
theorem d_D_forced_22 : decode prog_1_method_19_code 22 = .ok (.aload_n 0, 1) := by decide +kernel
theorem d_D_forced_23 : decode prog_1_method_19_code 23 = .ok (.getfield 33, 3) := by decide +kernel
theorem d_D_forced_26 : decode prog_1_method_19_code 26 = .ok (.iload_n 1, 1) := by decide +kernel
theorem d_D_forced_27 : decode prog_1_method_19_code 27 = .ok (.aload_n 0, 1) := by decide +kernel
theorem d_D_forced_28 : decode prog_1_method_19_code 28 = .ok (.iload_n 1, 1) := by decide +kernel
theorem d_D_forced_29 : decode prog_1_method_19_code 29 = .ok (.invokevirtual 141, 3) := by decide +kernel
theorem d_D_forced_32 : decode prog_1_method_19_code 32 = .ok (.invokevirtual 144, 3) := by decide +kernel
theorem d_D_forced_35 : decode prog_1_method_19_code 35 = .ok (.ireturn, 1) := by decide +kernel
theorem d_D_openName_0 : decode prog_1_method_33_code 0 = .ok (.iconst 0, 1) := by decide +kernel
theorem d_D_openName_1 : decode prog_1_method_33_code 1 = .ok (.istore_n 2, 1) := by decide +kernel
theorem d_D_openName_2 : decode prog_1_method_33_code 2 = .ok (.iload_n 2, 1) := by decide +kernel
theorem d_D_openName_3 : decode prog_1_method_33_code 3 = .ok (.aload_n 0, 1) := by decide +kernel
theorem d_D_openName_4 : decode prog_1_method_33_code 4 = .ok (.getfield 12, 3) := by decide +kernel
theorem d_D_openName_7 : decode prog_1_method_33_code 7 = .ok (.invokevirtual 119, 3) := by decide +kernel
theorem d_D_openName_10 : decode prog_1_method_33_code 10 = .ok (.if_icmp .ge 32, 3) := by decide +kernel
theorem d_D_openName_13 : decode prog_1_method_33_code 13 = .ok (.aload_n 0, 1) := by decide +kernel
theorem d_D_openName_14 : decode prog_1_method_33_code 14 = .ok (.getfield 33, 3) := by decide +kernel
theorem d_D_openName_17 : decode prog_1_method_33_code 17 = .ok (.iload_n 1, 1) := by decide +kernel
theorem d_D_openName_18 : decode prog_1_method_33_code 18 = .ok (.iload_n 2, 1) := by decide +kernel
theorem d_D_openName_19 : decode prog_1_method_33_code 19 = .ok (.invokevirtual 116, 3) := by decide +kernel
theorem d_D_openName_22 : decode prog_1_method_33_code 22 = .ok (.ifCond .eq 14, 3) := by decide +kernel
theorem d_D_openName_25 : decode prog_1_method_33_code 25 = .ok (.aload_n 0, 1) := by decide +kernel
theorem d_D_openName_26 : decode prog_1_method_33_code 26 = .ok (.iload_n 1, 1) := by decide +kernel
theorem d_D_openName_27 : decode prog_1_method_33_code 27 = .ok (.iload_n 2, 1) := by decide +kernel
theorem d_D_openName_28 : decode prog_1_method_33_code 28 = .ok (.invokevirtual 207, 3) := by decide +kernel
theorem d_D_openName_31 : decode prog_1_method_33_code 31 = .ok (.ifCond .ne 5, 3) := by decide +kernel
theorem d_D_openName_34 : decode prog_1_method_33_code 34 = .ok (.iload_n 2, 1) := by decide +kernel
theorem d_D_openName_35 : decode prog_1_method_33_code 35 = .ok (.ireturn, 1) := by decide +kernel
theorem d_D_openName_36 : decode prog_1_method_33_code 36 = .ok (.iinc 2 1, 3) := by decide +kernel
theorem d_D_openName_39 : decode prog_1_method_33_code 39 = .ok (.goto (-37), 3) := by decide +kernel
theorem d_D_openName_42 : decode prog_1_method_33_code 42 = .ok (.iconst (-1), 1) := by decide +kernel
theorem d_D_openName_43 : decode prog_1_method_33_code 43 = .ok (.ireturn, 1) := by decide +kernel
theorem d_D_spread_0 : decode prog_1_method_20_code 0 = .ok (.iconst 1, 1) := by decide +kernel
theorem d_D_spread_1 : decode prog_1_method_20_code 1 = .ok (.istore_n 1, 1) := by decide +kernel
theorem d_D_spread_2 : decode prog_1_method_20_code 2 = .ok (.iconst 0, 1) := by decide +kernel
theorem d_D_spread_3 : decode prog_1_method_20_code 3 = .ok (.istore_n 2, 1) := by decide +kernel
theorem d_D_spread_4 : decode prog_1_method_20_code 4 = .ok (.iload_n 1, 1) := by decide +kernel
theorem d_D_spread_5 : decode prog_1_method_20_code 5 = .ok (.ifCond .eq 68, 3) := by decide +kernel
theorem d_D_spread_8 : decode prog_1_method_20_code 8 = .ok (.iload_n 2, 1) := by decide +kernel
theorem d_D_spread_9 : decode prog_1_method_20_code 9 = .ok (.sipush 785, 3) := by decide +kernel
theorem d_D_spread_12 : decode prog_1_method_20_code 12 = .ok (.if_icmp .ge 61, 3) := by decide +kernel
theorem d_D_spread_15 : decode prog_1_method_20_code 15 = .ok (.iconst 0, 1) := by decide +kernel
theorem d_D_spread_16 : decode prog_1_method_20_code 16 = .ok (.istore_n 1, 1) := by decide +kernel
theorem d_D_spread_17 : decode prog_1_method_20_code 17 = .ok (.iconst 0, 1) := by decide +kernel
theorem d_D_spread_18 : decode prog_1_method_20_code 18 = .ok (.istore_n 3, 1) := by decide +kernel
theorem d_D_spread_19 : decode prog_1_method_20_code 19 = .ok (.iload_n 3, 1) := by decide +kernel
theorem d_D_spread_20 : decode prog_1_method_20_code 20 = .ok (.aload_n 0, 1) := by decide +kernel
theorem d_D_spread_21 : decode prog_1_method_20_code 21 = .ok (.getfield 33, 3) := by decide +kernel
theorem d_D_spread_24 : decode prog_1_method_20_code 24 = .ok (.invokevirtual 92, 3) := by decide +kernel
theorem d_D_spread_27 : decode prog_1_method_20_code 27 = .ok (.if_icmp .ge 40, 3) := by decide +kernel
theorem d_D_spread_30 : decode prog_1_method_20_code 30 = .ok (.aload_n 0, 1) := by decide +kernel
theorem d_D_spread_31 : decode prog_1_method_20_code 31 = .ok (.iload_n 3, 1) := by decide +kernel
theorem d_D_spread_32 : decode prog_1_method_20_code 32 = .ok (.invokevirtual 138, 3) := by decide +kernel
theorem d_D_spread_35 : decode prog_1_method_20_code 35 = .ok (.istore 4, 2) := by decide +kernel
theorem d_D_spread_37 : decode prog_1_method_20_code 37 = .ok (.iload 4, 2) := by decide +kernel
theorem d_D_spread_39 : decode prog_1_method_20_code 39 = .ok (.iconst 1, 1) := by decide +kernel
theorem d_D_spread_40 : decode prog_1_method_20_code 40 = .ok (.if_icmp .ne 8, 3) := by decide +kernel
theorem d_D_spread_43 : decode prog_1_method_20_code 43 = .ok (.aload_n 0, 1) := by decide +kernel
theorem d_D_spread_44 : decode prog_1_method_20_code 44 = .ok (.invokevirtual 147, 3) := by decide +kernel
theorem d_D_spread_47 : decode prog_1_method_20_code 47 = .ok (.ireturn, 1) := by decide +kernel
theorem d_D_spread_48 : decode prog_1_method_20_code 48 = .ok (.iload 4, 2) := by decide +kernel
theorem d_D_spread_50 : decode prog_1_method_20_code 50 = .ok (.iconst 2, 1) := by decide +kernel
theorem d_D_spread_51 : decode prog_1_method_20_code 51 = .ok (.if_icmp .ne 10, 3) := by decide +kernel
theorem d_D_spread_54 : decode prog_1_method_20_code 54 = .ok (.aload_n 0, 1) := by decide +kernel
theorem d_D_spread_55 : decode prog_1_method_20_code 55 = .ok (.iload_n 3, 1) := by decide +kernel
theorem d_D_spread_56 : decode prog_1_method_20_code 56 = .ok (.invokevirtual 150, 3) := by decide +kernel
theorem d_D_spread_59 : decode prog_1_method_20_code 59 = .ok (.iconst 1, 1) := by decide +kernel
theorem d_D_spread_60 : decode prog_1_method_20_code 60 = .ok (.istore_n 1, 1) := by decide +kernel
theorem d_D_spread_61 : decode prog_1_method_20_code 61 = .ok (.iinc 3 1, 3) := by decide +kernel
theorem d_D_spread_64 : decode prog_1_method_20_code 64 = .ok (.goto (-45), 3) := by decide +kernel
theorem d_D_spread_67 : decode prog_1_method_20_code 67 = .ok (.iinc 2 1, 3) := by decide +kernel
theorem d_D_spread_70 : decode prog_1_method_20_code 70 = .ok (.goto (-66), 3) := by decide +kernel
theorem d_D_spread_73 : decode prog_1_method_20_code 73 = .ok (.iconst (-1), 1) := by decide +kernel
theorem d_D_spread_74 : decode prog_1_method_20_code 74 = .ok (.ireturn, 1) := by decide +kernel
theorem d_D_firstKept_0 : decode prog_1_method_35_code 0 = .ok (.iconst 0, 1) := by decide +kernel
theorem d_D_firstKept_1 : decode prog_1_method_35_code 1 = .ok (.istore_n 1, 1) := by decide +kernel
theorem d_D_firstKept_2 : decode prog_1_method_35_code 2 = .ok (.iload_n 1, 1) := by decide +kernel
theorem d_D_firstKept_3 : decode prog_1_method_35_code 3 = .ok (.aload_n 0, 1) := by decide +kernel
theorem d_D_firstKept_4 : decode prog_1_method_35_code 4 = .ok (.getfield 33, 3) := by decide +kernel
theorem d_D_firstKept_7 : decode prog_1_method_35_code 7 = .ok (.invokevirtual 92, 3) := by decide +kernel
theorem d_D_firstKept_10 : decode prog_1_method_35_code 10 = .ok (.if_icmp .ge 20, 3) := by decide +kernel
theorem d_D_firstKept_13 : decode prog_1_method_35_code 13 = .ok (.aload_n 0, 1) := by decide +kernel
theorem d_D_firstKept_14 : decode prog_1_method_35_code 14 = .ok (.iload_n 1, 1) := by decide +kernel
theorem d_D_firstKept_15 : decode prog_1_method_35_code 15 = .ok (.invokevirtual 138, 3) := by decide +kernel
theorem d_D_firstKept_18 : decode prog_1_method_35_code 18 = .ok (.iconst 1, 1) := by decide +kernel
theorem d_D_firstKept_19 : decode prog_1_method_35_code 19 = .ok (.if_icmp .ne 5, 3) := by decide +kernel
theorem d_D_firstKept_22 : decode prog_1_method_35_code 22 = .ok (.iload_n 1, 1) := by decide +kernel
theorem d_D_firstKept_23 : decode prog_1_method_35_code 23 = .ok (.ireturn, 1) := by decide +kernel
theorem d_D_firstKept_24 : decode prog_1_method_35_code 24 = .ok (.iinc 1 1, 3) := by decide +kernel
theorem d_D_firstKept_27 : decode prog_1_method_35_code 27 = .ok (.goto (-25), 3) := by decide +kernel
theorem d_D_firstKept_30 : decode prog_1_method_35_code 30 = .ok (.iconst (-1), 1) := by decide +kernel
theorem d_D_firstKept_31 : decode prog_1_method_35_code 31 = .ok (.ireturn, 1) := by decide +kernel
theorem d_D_force_0 : decode prog_1_method_34_code 0 = .ok (.aload_n 0, 1) := by decide +kernel
theorem d_D_force_1 : decode prog_1_method_34_code 1 = .ok (.iload_n 1, 1) := by decide +kernel
theorem d_D_force_2 : decode prog_1_method_34_code 2 = .ok (.invokevirtual 141, 3) := by decide +kernel
theorem d_D_force_5 : decode prog_1_method_34_code 5 = .ok (.istore_n 2, 1) := by decide +kernel
theorem d_D_force_6 : decode prog_1_method_34_code 6 = .ok (.iload_n 2, 1) := by decide +kernel
theorem d_D_force_7 : decode prog_1_method_34_code 7 = .ok (.iconst (-1), 1) := by decide +kernel
theorem d_D_force_8 : decode prog_1_method_34_code 8 = .ok (.if_icmp .eq 26, 3) := by decide +kernel
theorem d_D_force_11 : decode prog_1_method_34_code 11 = .ok (.aload_n 0, 1) := by decide +kernel
theorem d_D_force_12 : decode prog_1_method_34_code 12 = .ok (.iload_n 2, 1) := by decide +kernel
theorem d_D_force_13 : decode prog_1_method_34_code 13 = .ok (.aload_n 0, 1) := by decide +kernel
theorem d_D_force_14 : decode prog_1_method_34_code 14 = .ok (.getfield 12, 3) := by decide +kernel
theorem d_D_force_17 : decode prog_1_method_34_code 17 = .ok (.iload_n 2, 1) := by decide +kernel
theorem d_D_force_18 : decode prog_1_method_34_code 18 = .ok (.invokevirtual 52, 3) := by decide +kernel
theorem d_D_force_21 : decode prog_1_method_34_code 21 = .ok (.aload_n 0, 1) := by decide +kernel
theorem d_D_force_22 : decode prog_1_method_34_code 22 = .ok (.getfield 33, 3) := by decide +kernel
theorem d_D_force_25 : decode prog_1_method_34_code 25 = .ok (.iload_n 1, 1) := by decide +kernel
theorem d_D_force_26 : decode prog_1_method_34_code 26 = .ok (.iload_n 2, 1) := by decide +kernel
theorem d_D_force_27 : decode prog_1_method_34_code 27 = .ok (.invokevirtual 132, 3) := by decide +kernel
theorem d_D_force_30 : decode prog_1_method_34_code 30 = .ok (.lxor, 1) := by decide +kernel
theorem d_D_force_31 : decode prog_1_method_34_code 31 = .ok (.invokevirtual 134, 3) := by decide +kernel
theorem d_D_force_34 : decode prog_1_method_34_code 34 = .ok (.return_, 1) := by decide +kernel
theorem d_D_chosen_0 : decode prog_1_method_21_code 0 = .ok (.aload_n 0, 1) := by decide +kernel
theorem d_D_chosen_1 : decode prog_1_method_21_code 1 = .ok (.getfield 12, 3) := by decide +kernel
theorem d_D_chosen_4 : decode prog_1_method_21_code 4 = .ok (.iload_n 1, 1) := by decide +kernel
theorem d_D_chosen_5 : decode prog_1_method_21_code 5 = .ok (.invokevirtual 56, 3) := by decide +kernel
theorem d_D_chosen_8 : decode prog_1_method_21_code 8 = .ok (.ifCond .eq 18, 3) := by decide +kernel
theorem d_D_chosen_11 : decode prog_1_method_21_code 11 = .ok (.aload_n 0, 1) := by decide +kernel
theorem d_D_chosen_12 : decode prog_1_method_21_code 12 = .ok (.iload_n 1, 1) := by decide +kernel
theorem d_D_chosen_13 : decode prog_1_method_21_code 13 = .ok (.aload_n 0, 1) := by decide +kernel
theorem d_D_chosen_14 : decode prog_1_method_21_code 14 = .ok (.getfield 37, 3) := by decide +kernel
theorem d_D_chosen_17 : decode prog_1_method_21_code 17 = .ok (.iload_n 1, 1) := by decide +kernel
theorem d_D_chosen_18 : decode prog_1_method_21_code 18 = .ok (.laload, 1) := by decide +kernel
theorem d_D_chosen_19 : decode prog_1_method_21_code 19 = .ok (.iload_n 2, 1) := by decide +kernel
theorem d_D_chosen_20 : decode prog_1_method_21_code 20 = .ok (.invokevirtual 77, 3) := by decide +kernel
theorem d_D_chosen_23 : decode prog_1_method_21_code 23 = .ok (.goto 4, 3) := by decide +kernel
theorem d_D_chosen_26 : decode prog_1_method_21_code 26 = .ok (.iconst (-1), 1) := by decide +kernel
theorem d_D_chosen_27 : decode prog_1_method_21_code 27 = .ok (.ireturn, 1) := by decide +kernel
theorem d_D_chosenSet_0 : decode prog_1_method_22_code 0 = .ok (.aload_n 0, 1) := by decide +kernel
theorem d_D_chosenSet_1 : decode prog_1_method_22_code 1 = .ok (.getfield 12, 3) := by decide +kernel
theorem d_D_chosenSet_4 : decode prog_1_method_22_code 4 = .ok (.iload_n 1, 1) := by decide +kernel
theorem d_D_chosenSet_5 : decode prog_1_method_22_code 5 = .ok (.invokevirtual 56, 3) := by decide +kernel
theorem d_D_chosenSet_8 : decode prog_1_method_22_code 8 = .ok (.ifCond .eq 20, 3) := by decide +kernel
theorem d_D_chosenSet_11 : decode prog_1_method_22_code 11 = .ok (.aload_n 0, 1) := by decide +kernel
theorem d_D_chosenSet_12 : decode prog_1_method_22_code 12 = .ok (.getfield 12, 3) := by decide +kernel
theorem d_D_chosenSet_15 : decode prog_1_method_22_code 15 = .ok (.iload_n 1, 1) := by decide +kernel
theorem d_D_chosenSet_16 : decode prog_1_method_22_code 16 = .ok (.aload_n 0, 1) := by decide +kernel
theorem d_D_chosenSet_17 : decode prog_1_method_22_code 17 = .ok (.getfield 37, 3) := by decide +kernel
theorem d_D_chosenSet_20 : decode prog_1_method_22_code 20 = .ok (.iload_n 1, 1) := by decide +kernel
theorem d_D_chosenSet_21 : decode prog_1_method_22_code 21 = .ok (.laload, 1) := by decide +kernel
theorem d_D_chosenSet_22 : decode prog_1_method_22_code 22 = .ok (.invokevirtual 81, 3) := by decide +kernel
theorem d_D_chosenSet_25 : decode prog_1_method_22_code 25 = .ok (.goto 4, 3) := by decide +kernel
theorem d_D_chosenSet_28 : decode prog_1_method_22_code 28 = .ok (.lconst 0, 1) := by decide +kernel
theorem d_D_chosenSet_29 : decode prog_1_method_22_code 29 = .ok (.lreturn, 1) := by decide +kernel
theorem d_D_print_0 : decode prog_1_method_23_code 0 = .ok (.aload_n 0, 1) := by decide +kernel
theorem d_D_print_1 : decode prog_1_method_23_code 1 = .ok (.getfield 33, 3) := by decide +kernel
theorem d_D_print_4 : decode prog_1_method_23_code 4 = .ok (.iload_n 1, 1) := by decide +kernel
theorem d_D_print_5 : decode prog_1_method_23_code 5 = .ok (.invokevirtual 124, 3) := by decide +kernel
theorem d_D_print_8 : decode prog_1_method_23_code 8 = .ok (.ifCond .ne 5, 3) := by decide +kernel
theorem d_D_print_11 : decode prog_1_method_23_code 11 = .ok (.iconst (-1), 1) := by decide +kernel
theorem d_D_print_12 : decode prog_1_method_23_code 12 = .ok (.ireturn, 1) := by decide +kernel
theorem d_D_print_13 : decode prog_1_method_23_code 13 = .ok (.aload_n 0, 1) := by decide +kernel
theorem d_D_print_14 : decode prog_1_method_23_code 14 = .ok (.getfield 44, 3) := by decide +kernel
theorem d_D_print_17 : decode prog_1_method_23_code 17 = .ok (.invokevirtual 153, 3) := by decide +kernel
theorem d_D_print_20 : decode prog_1_method_23_code 20 = .ok (.iconst 0, 1) := by decide +kernel
theorem d_D_print_21 : decode prog_1_method_23_code 21 = .ok (.istore_n 2, 1) := by decide +kernel
theorem d_D_print_22 : decode prog_1_method_23_code 22 = .ok (.iload_n 2, 1) := by decide +kernel
theorem d_D_print_23 : decode prog_1_method_23_code 23 = .ok (.aload_n 0, 1) := by decide +kernel
theorem d_D_print_24 : decode prog_1_method_23_code 24 = .ok (.getfield 12, 3) := by decide +kernel
theorem d_D_print_27 : decode prog_1_method_23_code 27 = .ok (.invokevirtual 119, 3) := by decide +kernel
theorem d_D_print_30 : decode prog_1_method_23_code 30 = .ok (.if_icmp .ge 35, 3) := by decide +kernel
theorem d_D_print_33 : decode prog_1_method_23_code 33 = .ok (.aload_n 0, 1) := by decide +kernel
theorem d_D_print_34 : decode prog_1_method_23_code 34 = .ok (.getfield 33, 3) := by decide +kernel
theorem d_D_print_37 : decode prog_1_method_23_code 37 = .ok (.iload_n 1, 1) := by decide +kernel
theorem d_D_print_38 : decode prog_1_method_23_code 38 = .ok (.iload_n 2, 1) := by decide +kernel
theorem d_D_print_39 : decode prog_1_method_23_code 39 = .ok (.invokevirtual 116, 3) := by decide +kernel
theorem d_D_print_42 : decode prog_1_method_23_code 42 = .ok (.ifCond .eq 17, 3) := by decide +kernel
theorem d_D_print_45 : decode prog_1_method_23_code 45 = .ok (.aload_n 0, 1) := by decide +kernel
theorem d_D_print_46 : decode prog_1_method_23_code 46 = .ok (.iload_n 2, 1) := by decide +kernel
theorem d_D_print_47 : decode prog_1_method_23_code 47 = .ok (.aload_n 0, 1) := by decide +kernel
theorem d_D_print_48 : decode prog_1_method_23_code 48 = .ok (.getfield 33, 3) := by decide +kernel
theorem d_D_print_51 : decode prog_1_method_23_code 51 = .ok (.iload_n 1, 1) := by decide +kernel
theorem d_D_print_52 : decode prog_1_method_23_code 52 = .ok (.iload_n 2, 1) := by decide +kernel
theorem d_D_print_53 : decode prog_1_method_23_code 53 = .ok (.invokevirtual 132, 3) := by decide +kernel
theorem d_D_print_56 : decode prog_1_method_23_code 56 = .ok (.invokevirtual 156, 3) := by decide +kernel
theorem d_D_print_59 : decode prog_1_method_23_code 59 = .ok (.iinc 2 1, 3) := by decide +kernel
theorem d_D_print_62 : decode prog_1_method_23_code 62 = .ok (.goto (-40), 3) := by decide +kernel
theorem d_D_print_65 : decode prog_1_method_23_code 65 = .ok (.aload_n 0, 1) := by decide +kernel
theorem d_D_print_66 : decode prog_1_method_23_code 66 = .ok (.getfield 44, 3) := by decide +kernel
theorem d_D_print_69 : decode prog_1_method_23_code 69 = .ok (.invokevirtual 159, 3) := by decide +kernel
theorem d_D_print_72 : decode prog_1_method_23_code 72 = .ok (.ireturn, 1) := by decide +kernel
theorem d_G_clear_0 : decode prog_5_method_3_code 0 = .ok (.aload_n 0, 1) := by decide +kernel
theorem d_G_clear_1 : decode prog_5_method_3_code 1 = .ok (.iconst 0, 1) := by decide +kernel
theorem d_G_clear_2 : decode prog_5_method_3_code 2 = .ok (.putfield 15, 3) := by decide +kernel
theorem d_G_clear_5 : decode prog_5_method_3_code 5 = .ok (.return_, 1) := by decide +kernel
theorem d_D_printPart_0 : decode prog_1_method_36_code 0 = .ok (.aload_n 0, 1) := by decide +kernel
theorem d_D_printPart_1 : decode prog_1_method_36_code 1 = .ok (.getfield 44, 3) := by decide +kernel
theorem d_D_printPart_4 : decode prog_1_method_36_code 4 = .ok (.invokevirtual 159, 3) := by decide +kernel
theorem d_D_printPart_7 : decode prog_1_method_36_code 7 = .ok (.ifCond .le 21, 3) := by decide +kernel
theorem d_D_printPart_10 : decode prog_1_method_36_code 10 = .ok (.aload_n 0, 1) := by decide +kernel
theorem d_D_printPart_11 : decode prog_1_method_36_code 11 = .ok (.getfield 44, 3) := by decide +kernel
theorem d_D_printPart_14 : decode prog_1_method_36_code 14 = .ok (.bipush 59, 2) := by decide +kernel
theorem d_D_printPart_16 : decode prog_1_method_36_code 16 = .ok (.invokevirtual 210, 3) := by decide +kernel
theorem d_D_printPart_19 : decode prog_1_method_36_code 19 = .ok (.aload_n 0, 1) := by decide +kernel
theorem d_D_printPart_20 : decode prog_1_method_36_code 20 = .ok (.getfield 44, 3) := by decide +kernel
theorem d_D_printPart_23 : decode prog_1_method_36_code 23 = .ok (.bipush 32, 2) := by decide +kernel
theorem d_D_printPart_25 : decode prog_1_method_36_code 25 = .ok (.invokevirtual 210, 3) := by decide +kernel
theorem d_D_printPart_28 : decode prog_1_method_36_code 28 = .ok (.lload_n 2, 1) := by decide +kernel
theorem d_D_printPart_29 : decode prog_1_method_36_code 29 = .ok (.invokestatic 165, 3) := by decide +kernel
theorem d_D_printPart_32 : decode prog_1_method_36_code 32 = .ok (.ifCond .ne 12, 3) := by decide +kernel
theorem d_D_printPart_35 : decode prog_1_method_36_code 35 = .ok (.aload_n 0, 1) := by decide +kernel
theorem d_D_printPart_36 : decode prog_1_method_36_code 36 = .ok (.getfield 44, 3) := by decide +kernel
theorem d_D_printPart_39 : decode prog_1_method_36_code 39 = .ok (.bipush 33, 2) := by decide +kernel
theorem d_D_printPart_41 : decode prog_1_method_36_code 41 = .ok (.invokevirtual 210, 3) := by decide +kernel
theorem d_D_printPart_44 : decode prog_1_method_36_code 44 = .ok (.aload_n 0, 1) := by decide +kernel
theorem d_D_printPart_45 : decode prog_1_method_36_code 45 = .ok (.getfield 44, 3) := by decide +kernel
theorem d_D_printPart_48 : decode prog_1_method_36_code 48 = .ok (.bipush 97, 2) := by decide +kernel
theorem d_D_printPart_50 : decode prog_1_method_36_code 50 = .ok (.iload_n 1, 1) := by decide +kernel
theorem d_D_printPart_51 : decode prog_1_method_36_code 51 = .ok (.iadd, 1) := by decide +kernel
theorem d_D_printPart_52 : decode prog_1_method_36_code 52 = .ok (.i2c, 1) := by decide +kernel
theorem d_D_printPart_53 : decode prog_1_method_36_code 53 = .ok (.invokevirtual 210, 3) := by decide +kernel
theorem d_D_printPart_56 : decode prog_1_method_36_code 56 = .ok (.aload_n 0, 1) := by decide +kernel
theorem d_D_printPart_57 : decode prog_1_method_36_code 57 = .ok (.getfield 44, 3) := by decide +kernel
theorem d_D_printPart_60 : decode prog_1_method_36_code 60 = .ok (.bipush 32, 2) := by decide +kernel
theorem d_D_printPart_62 : decode prog_1_method_36_code 62 = .ok (.invokevirtual 210, 3) := by decide +kernel
theorem d_D_printPart_65 : decode prog_1_method_36_code 65 = .ok (.aload_n 0, 1) := by decide +kernel
theorem d_D_printPart_66 : decode prog_1_method_36_code 66 = .ok (.getfield 44, 3) := by decide +kernel
theorem d_D_printPart_69 : decode prog_1_method_36_code 69 = .ok (.aload_n 0, 1) := by decide +kernel
theorem d_D_printPart_70 : decode prog_1_method_36_code 70 = .ok (.getfield 12, 3) := by decide +kernel
theorem d_D_printPart_73 : decode prog_1_method_36_code 73 = .ok (.iload_n 1, 1) := by decide +kernel
theorem d_D_printPart_74 : decode prog_1_method_36_code 74 = .ok (.lload_n 2, 1) := by decide +kernel
theorem d_D_printPart_75 : decode prog_1_method_36_code 75 = .ok (.invokevirtual 81, 3) := by decide +kernel
theorem d_D_printPart_78 : decode prog_1_method_36_code 78 = .ok (.invokevirtual 213, 3) := by decide +kernel
theorem d_D_printPart_81 : decode prog_1_method_36_code 81 = .ok (.return_, 1) := by decide +kernel
theorem d_G_length_0 : decode prog_5_method_2_code 0 = .ok (.aload_n 0, 1) := by decide +kernel
theorem d_G_length_1 : decode prog_5_method_2_code 1 = .ok (.getfield 15, 3) := by decide +kernel
theorem d_G_length_4 : decode prog_5_method_2_code 4 = .ok (.ireturn, 1) := by decide +kernel
theorem d_G_put_0 : decode prog_5_method_4_code 0 = .ok (.aload_n 0, 1) := by decide +kernel
theorem d_G_put_1 : decode prog_5_method_4_code 1 = .ok (.getfield 15, 3) := by decide +kernel
theorem d_G_put_4 : decode prog_5_method_4_code 4 = .ok (.aload_n 0, 1) := by decide +kernel
theorem d_G_put_5 : decode prog_5_method_4_code 5 = .ok (.getfield 9, 3) := by decide +kernel
theorem d_G_put_8 : decode prog_5_method_4_code 8 = .ok (.arraylength, 1) := by decide +kernel
theorem d_G_put_9 : decode prog_5_method_4_code 9 = .ok (.if_icmp .ge 23, 3) := by decide +kernel
theorem d_G_put_12 : decode prog_5_method_4_code 12 = .ok (.aload_n 0, 1) := by decide +kernel
theorem d_G_put_13 : decode prog_5_method_4_code 13 = .ok (.getfield 9, 3) := by decide +kernel
theorem d_G_put_16 : decode prog_5_method_4_code 16 = .ok (.aload_n 0, 1) := by decide +kernel
theorem d_G_put_17 : decode prog_5_method_4_code 17 = .ok (.getfield 15, 3) := by decide +kernel
theorem d_G_put_20 : decode prog_5_method_4_code 20 = .ok (.iload_n 1, 1) := by decide +kernel
theorem d_G_put_21 : decode prog_5_method_4_code 21 = .ok (.castore, 1) := by decide +kernel
theorem d_G_put_22 : decode prog_5_method_4_code 22 = .ok (.aload_n 0, 1) := by decide +kernel
theorem d_G_put_23 : decode prog_5_method_4_code 23 = .ok (.dup, 1) := by decide +kernel
theorem d_G_put_24 : decode prog_5_method_4_code 24 = .ok (.getfield 15, 3) := by decide +kernel
theorem d_G_put_27 : decode prog_5_method_4_code 27 = .ok (.iconst 1, 1) := by decide +kernel
theorem d_G_put_28 : decode prog_5_method_4_code 28 = .ok (.iadd, 1) := by decide +kernel
theorem d_G_put_29 : decode prog_5_method_4_code 29 = .ok (.putfield 15, 3) := by decide +kernel
theorem d_G_put_32 : decode prog_5_method_4_code 32 = .ok (.return_, 1) := by decide +kernel
theorem d_G_putRuns_0 : decode prog_5_method_5_code 0 = .ok (.lload_n 1, 1) := by decide +kernel
theorem d_G_putRuns_1 : decode prog_5_method_5_code 1 = .ok (.lload_n 1, 1) := by decide +kernel
theorem d_G_putRuns_2 : decode prog_5_method_5_code 2 = .ok (.iconst 1, 1) := by decide +kernel
theorem d_G_putRuns_3 : decode prog_5_method_5_code 3 = .ok (.lshl, 1) := by decide +kernel
theorem d_G_putRuns_4 : decode prog_5_method_5_code 4 = .ok (.ldc2_w 19, 3) := by decide +kernel
theorem d_G_putRuns_7 : decode prog_5_method_5_code 7 = .ok (.lxor, 1) := by decide +kernel
theorem d_G_putRuns_8 : decode prog_5_method_5_code 8 = .ok (.land, 1) := by decide +kernel
theorem d_G_putRuns_9 : decode prog_5_method_5_code 9 = .ok (.lstore_n 3, 1) := by decide +kernel
theorem d_G_putRuns_10 : decode prog_5_method_5_code 10 = .ok (.lload_n 1, 1) := by decide +kernel
theorem d_G_putRuns_11 : decode prog_5_method_5_code 11 = .ok (.lload_n 1, 1) := by decide +kernel
theorem d_G_putRuns_12 : decode prog_5_method_5_code 12 = .ok (.iconst 1, 1) := by decide +kernel
theorem d_G_putRuns_13 : decode prog_5_method_5_code 13 = .ok (.lushr, 1) := by decide +kernel
theorem d_G_putRuns_14 : decode prog_5_method_5_code 14 = .ok (.ldc2_w 19, 3) := by decide +kernel
theorem d_G_putRuns_17 : decode prog_5_method_5_code 17 = .ok (.lxor, 1) := by decide +kernel
theorem d_G_putRuns_18 : decode prog_5_method_5_code 18 = .ok (.land, 1) := by decide +kernel
theorem d_G_putRuns_19 : decode prog_5_method_5_code 19 = .ok (.lstore 5, 2) := by decide +kernel
theorem d_G_putRuns_21 : decode prog_5_method_5_code 21 = .ok (.iconst 1, 1) := by decide +kernel
theorem d_G_putRuns_22 : decode prog_5_method_5_code 22 = .ok (.istore 7, 2) := by decide +kernel
theorem d_G_putRuns_24 : decode prog_5_method_5_code 24 = .ok (.iconst 0, 1) := by decide +kernel
theorem d_G_putRuns_25 : decode prog_5_method_5_code 25 = .ok (.istore 8, 2) := by decide +kernel
theorem d_G_putRuns_27 : decode prog_5_method_5_code 27 = .ok (.iload 8, 2) := by decide +kernel
theorem d_G_putRuns_29 : decode prog_5_method_5_code 29 = .ok (.bipush 48, 2) := by decide +kernel
theorem d_G_putRuns_31 : decode prog_5_method_5_code 31 = .ok (.if_icmp .ge 63, 3) := by decide +kernel
theorem d_G_putRuns_34 : decode prog_5_method_5_code 34 = .ok (.lload_n 3, 1) := by decide +kernel
theorem d_G_putRuns_35 : decode prog_5_method_5_code 35 = .ok (.iload 8, 2) := by decide +kernel
theorem d_G_putRuns_37 : decode prog_5_method_5_code 37 = .ok (.invokestatic 21, 3) := by decide +kernel
theorem d_G_putRuns_40 : decode prog_5_method_5_code 40 = .ok (.ifCond .eq 26, 3) := by decide +kernel
theorem d_G_putRuns_43 : decode prog_5_method_5_code 43 = .ok (.iload 7, 2) := by decide +kernel
theorem d_G_putRuns_45 : decode prog_5_method_5_code 45 = .ok (.ifCond .ne 9, 3) := by decide +kernel
theorem d_G_putRuns_48 : decode prog_5_method_5_code 48 = .ok (.aload_n 0, 1) := by decide +kernel
theorem d_G_putRuns_49 : decode prog_5_method_5_code 49 = .ok (.bipush 44, 2) := by decide +kernel
theorem d_G_putRuns_51 : decode prog_5_method_5_code 51 = .ok (.invokevirtual 25, 3) := by decide +kernel
theorem d_G_putRuns_54 : decode prog_5_method_5_code 54 = .ok (.iconst 0, 1) := by decide +kernel
theorem d_G_putRuns_55 : decode prog_5_method_5_code 55 = .ok (.istore 7, 2) := by decide +kernel
theorem d_G_putRuns_57 : decode prog_5_method_5_code 57 = .ok (.aload_n 0, 1) := by decide +kernel
theorem d_G_putRuns_58 : decode prog_5_method_5_code 58 = .ok (.iload 8, 2) := by decide +kernel
theorem d_G_putRuns_60 : decode prog_5_method_5_code 60 = .ok (.invokevirtual 29, 3) := by decide +kernel
theorem d_G_putRuns_63 : decode prog_5_method_5_code 63 = .ok (.goto 25, 3) := by decide +kernel
theorem d_G_putRuns_66 : decode prog_5_method_5_code 66 = .ok (.lload 5, 2) := by decide +kernel
theorem d_G_putRuns_68 : decode prog_5_method_5_code 68 = .ok (.iload 8, 2) := by decide +kernel
theorem d_G_putRuns_70 : decode prog_5_method_5_code 70 = .ok (.invokestatic 21, 3) := by decide +kernel
theorem d_G_putRuns_73 : decode prog_5_method_5_code 73 = .ok (.ifCond .eq 15, 3) := by decide +kernel
theorem d_G_putRuns_76 : decode prog_5_method_5_code 76 = .ok (.aload_n 0, 1) := by decide +kernel
theorem d_G_putRuns_77 : decode prog_5_method_5_code 77 = .ok (.bipush 45, 2) := by decide +kernel
theorem d_G_putRuns_79 : decode prog_5_method_5_code 79 = .ok (.invokevirtual 25, 3) := by decide +kernel
theorem d_G_putRuns_82 : decode prog_5_method_5_code 82 = .ok (.aload_n 0, 1) := by decide +kernel
theorem d_G_putRuns_83 : decode prog_5_method_5_code 83 = .ok (.iload 8, 2) := by decide +kernel
theorem d_G_putRuns_85 : decode prog_5_method_5_code 85 = .ok (.invokevirtual 29, 3) := by decide +kernel
theorem d_G_putRuns_88 : decode prog_5_method_5_code 88 = .ok (.iinc 8 1, 3) := by decide +kernel
theorem d_G_putRuns_91 : decode prog_5_method_5_code 91 = .ok (.goto (-64), 3) := by decide +kernel
theorem d_G_putRuns_94 : decode prog_5_method_5_code 94 = .ok (.return_, 1) := by decide +kernel
theorem d_G_putNumber_0 : decode prog_5_method_6_code 0 = .ok (.iload_n 1, 1) := by decide +kernel
theorem d_G_putNumber_1 : decode prog_5_method_6_code 1 = .ok (.bipush 10, 2) := by decide +kernel
theorem d_G_putNumber_3 : decode prog_5_method_6_code 3 = .ok (.if_icmp .lt 15, 3) := by decide +kernel
theorem d_G_putNumber_6 : decode prog_5_method_6_code 6 = .ok (.aload_n 0, 1) := by decide +kernel
theorem d_G_putNumber_7 : decode prog_5_method_6_code 7 = .ok (.bipush 48, 2) := by decide +kernel
theorem d_G_putNumber_9 : decode prog_5_method_6_code 9 = .ok (.iload_n 1, 1) := by decide +kernel
theorem d_G_putNumber_10 : decode prog_5_method_6_code 10 = .ok (.bipush 10, 2) := by decide +kernel
theorem d_G_putNumber_12 : decode prog_5_method_6_code 12 = .ok (.idiv, 1) := by decide +kernel
theorem d_G_putNumber_13 : decode prog_5_method_6_code 13 = .ok (.iadd, 1) := by decide +kernel
theorem d_G_putNumber_14 : decode prog_5_method_6_code 14 = .ok (.i2c, 1) := by decide +kernel
theorem d_G_putNumber_15 : decode prog_5_method_6_code 15 = .ok (.invokevirtual 25, 3) := by decide +kernel
theorem d_G_putNumber_18 : decode prog_5_method_6_code 18 = .ok (.aload_n 0, 1) := by decide +kernel
theorem d_G_putNumber_19 : decode prog_5_method_6_code 19 = .ok (.bipush 48, 2) := by decide +kernel
theorem d_G_putNumber_21 : decode prog_5_method_6_code 21 = .ok (.iload_n 1, 1) := by decide +kernel
theorem d_G_putNumber_22 : decode prog_5_method_6_code 22 = .ok (.bipush 10, 2) := by decide +kernel
theorem d_G_putNumber_24 : decode prog_5_method_6_code 24 = .ok (.irem, 1) := by decide +kernel
theorem d_G_putNumber_25 : decode prog_5_method_6_code 25 = .ok (.iadd, 1) := by decide +kernel
theorem d_G_putNumber_26 : decode prog_5_method_6_code 26 = .ok (.i2c, 1) := by decide +kernel
theorem d_G_putNumber_27 : decode prog_5_method_6_code 27 = .ok (.invokevirtual 25, 3) := by decide +kernel
theorem d_G_putNumber_30 : decode prog_5_method_6_code 30 = .ok (.return_, 1) := by decide +kernel
theorem d_D_at_0 : decode prog_1_method_24_code 0 = .ok (.aload_n 0, 1) := by decide +kernel
theorem d_D_at_1 : decode prog_1_method_24_code 1 = .ok (.getfield 44, 3) := by decide +kernel
theorem d_D_at_4 : decode prog_1_method_24_code 4 = .ok (.iload_n 1, 1) := by decide +kernel
theorem d_D_at_5 : decode prog_1_method_24_code 5 = .ok (.invokevirtual 162, 3) := by decide +kernel
theorem d_D_at_8 : decode prog_1_method_24_code 8 = .ok (.ireturn, 1) := by decide +kernel
theorem d_G_signAt_0 : decode prog_5_method_7_code 0 = .ok (.iload_n 1, 1) := by decide +kernel
theorem d_G_signAt_1 : decode prog_5_method_7_code 1 = .ok (.ifCond .lt 20, 3) := by decide +kernel
theorem d_G_signAt_4 : decode prog_5_method_7_code 4 = .ok (.iload_n 1, 1) := by decide +kernel
theorem d_G_signAt_5 : decode prog_5_method_7_code 5 = .ok (.aload_n 0, 1) := by decide +kernel
theorem d_G_signAt_6 : decode prog_5_method_7_code 6 = .ok (.getfield 15, 3) := by decide +kernel
theorem d_G_signAt_9 : decode prog_5_method_7_code 9 = .ok (.if_icmp .ge 12, 3) := by decide +kernel
theorem d_G_signAt_12 : decode prog_5_method_7_code 12 = .ok (.iload_n 1, 1) := by decide +kernel
theorem d_G_signAt_13 : decode prog_5_method_7_code 13 = .ok (.aload_n 0, 1) := by decide +kernel
theorem d_G_signAt_14 : decode prog_5_method_7_code 14 = .ok (.getfield 9, 3) := by decide +kernel
theorem d_G_signAt_17 : decode prog_5_method_7_code 17 = .ok (.arraylength, 1) := by decide +kernel
theorem d_G_signAt_18 : decode prog_5_method_7_code 18 = .ok (.if_icmp .lt 5, 3) := by decide +kernel
theorem d_G_signAt_21 : decode prog_5_method_7_code 21 = .ok (.iconst (-1), 1) := by decide +kernel
theorem d_G_signAt_22 : decode prog_5_method_7_code 22 = .ok (.ireturn, 1) := by decide +kernel
theorem d_G_signAt_23 : decode prog_5_method_7_code 23 = .ok (.aload_n 0, 1) := by decide +kernel
theorem d_G_signAt_24 : decode prog_5_method_7_code 24 = .ok (.getfield 9, 3) := by decide +kernel
theorem d_G_signAt_27 : decode prog_5_method_7_code 27 = .ok (.iload_n 1, 1) := by decide +kernel
theorem d_G_signAt_28 : decode prog_5_method_7_code 28 = .ok (.caload, 1) := by decide +kernel
theorem d_G_signAt_29 : decode prog_5_method_7_code 29 = .ok (.ireturn, 1) := by decide +kernel
