theorem d_M_deriveRow_203 : decode prog_8_method_31_code 203 = .ok (.return_, 1) := by decide +kernel
theorem d_M_begin_0 : decode prog_8_method_30_code 0 = .ok (.aload_n 0, 1) := by decide +kernel
theorem d_M_begin_1 : decode prog_8_method_30_code 1 = .ok (.getfield 21, 3) := by decide +kernel
theorem d_M_begin_4 : decode prog_8_method_30_code 4 = .ok (.aload_n 0, 1) := by decide +kernel
theorem d_M_begin_5 : decode prog_8_method_30_code 5 = .ok (.getfield 71, 3) := by decide +kernel
theorem d_M_begin_8 : decode prog_8_method_30_code 8 = .ok (.iconst 0, 1) := by decide +kernel
theorem d_M_begin_9 : decode prog_8_method_30_code 9 = .ok (.iastore, 1) := by decide +kernel
theorem d_M_begin_10 : decode prog_8_method_30_code 10 = .ok (.aload_n 0, 1) := by decide +kernel
theorem d_M_begin_11 : decode prog_8_method_30_code 11 = .ok (.getfield 24, 3) := by decide +kernel
theorem d_M_begin_14 : decode prog_8_method_30_code 14 = .ok (.aload_n 0, 1) := by decide +kernel
theorem d_M_begin_15 : decode prog_8_method_30_code 15 = .ok (.getfield 71, 3) := by decide +kernel
theorem d_M_begin_18 : decode prog_8_method_30_code 18 = .ok (.iconst (-1), 1) := by decide +kernel
theorem d_M_begin_19 : decode prog_8_method_30_code 19 = .ok (.iastore, 1) := by decide +kernel
theorem d_M_begin_20 : decode prog_8_method_30_code 20 = .ok (.return_, 1) := by decide +kernel
theorem d_M_has_0 : decode prog_8_method_27_code 0 = .ok (.iconst 0, 1) := by decide +kernel
theorem d_M_has_1 : decode prog_8_method_27_code 1 = .ok (.istore_n 3, 1) := by decide +kernel
theorem d_M_has_2 : decode prog_8_method_27_code 2 = .ok (.iconst 0, 1) := by decide +kernel
theorem d_M_has_3 : decode prog_8_method_27_code 3 = .ok (.istore 4, 2) := by decide +kernel
theorem d_M_has_5 : decode prog_8_method_27_code 5 = .ok (.iload 4, 2) := by decide +kernel
theorem d_M_has_7 : decode prog_8_method_27_code 7 = .ok (.aload_n 0, 1) := by decide +kernel
theorem d_M_has_8 : decode prog_8_method_27_code 8 = .ok (.getfield 118, 3) := by decide +kernel
theorem d_M_has_11 : decode prog_8_method_27_code 11 = .ok (.if_icmp .ge 30, 3) := by decide +kernel
theorem d_M_has_14 : decode prog_8_method_27_code 14 = .ok (.iload_n 3, 1) := by decide +kernel
theorem d_M_has_15 : decode prog_8_method_27_code 15 = .ok (.ifCond .ne 14, 3) := by decide +kernel
theorem d_M_has_18 : decode prog_8_method_27_code 18 = .ok (.aload_n 0, 1) := by decide +kernel
theorem d_M_has_19 : decode prog_8_method_27_code 19 = .ok (.iload 4, 2) := by decide +kernel
theorem d_M_has_21 : decode prog_8_method_27_code 21 = .ok (.iload_n 1, 1) := by decide +kernel
theorem d_M_has_22 : decode prog_8_method_27_code 22 = .ok (.iload_n 2, 1) := by decide +kernel
theorem d_M_has_23 : decode prog_8_method_27_code 23 = .ok (.invokevirtual 125, 3) := by decide +kernel
theorem d_M_has_26 : decode prog_8_method_27_code 26 = .ok (.ifCond .eq 7, 3) := by decide +kernel
theorem d_M_has_29 : decode prog_8_method_27_code 29 = .ok (.iconst 1, 1) := by decide +kernel
theorem d_M_has_30 : decode prog_8_method_27_code 30 = .ok (.goto 4, 3) := by decide +kernel
theorem d_M_has_33 : decode prog_8_method_27_code 33 = .ok (.iconst 0, 1) := by decide +kernel
theorem d_M_has_34 : decode prog_8_method_27_code 34 = .ok (.istore_n 3, 1) := by decide +kernel
theorem d_M_has_35 : decode prog_8_method_27_code 35 = .ok (.iinc 4 1, 3) := by decide +kernel
theorem d_M_has_38 : decode prog_8_method_27_code 38 = .ok (.goto (-33), 3) := by decide +kernel
theorem d_M_has_41 : decode prog_8_method_27_code 41 = .ok (.iload_n 3, 1) := by decide +kernel
theorem d_M_has_42 : decode prog_8_method_27_code 42 = .ok (.ireturn, 1) := by decide +kernel
theorem d_M_isAlike_0 : decode prog_8_method_26_code 0 = .ok (.aload_n 0, 1) := by decide +kernel
theorem d_M_isAlike_1 : decode prog_8_method_26_code 1 = .ok (.getfield 43, 3) := by decide +kernel
theorem d_M_isAlike_4 : decode prog_8_method_26_code 4 = .ok (.iload_n 1, 1) := by decide +kernel
theorem d_M_isAlike_5 : decode prog_8_method_26_code 5 = .ok (.iaload, 1) := by decide +kernel
theorem d_M_isAlike_6 : decode prog_8_method_26_code 6 = .ok (.aload_n 0, 1) := by decide +kernel
theorem d_M_isAlike_7 : decode prog_8_method_26_code 7 = .ok (.getfield 43, 3) := by decide +kernel
theorem d_M_isAlike_10 : decode prog_8_method_26_code 10 = .ok (.iload_n 3, 1) := by decide +kernel
theorem d_M_isAlike_11 : decode prog_8_method_26_code 11 = .ok (.iaload, 1) := by decide +kernel
theorem d_M_isAlike_12 : decode prog_8_method_26_code 12 = .ok (.if_icmp .ne 63, 3) := by decide +kernel
theorem d_M_isAlike_15 : decode prog_8_method_26_code 15 = .ok (.aload_n 0, 1) := by decide +kernel
theorem d_M_isAlike_16 : decode prog_8_method_26_code 16 = .ok (.getfield 46, 3) := by decide +kernel
theorem d_M_isAlike_19 : decode prog_8_method_26_code 19 = .ok (.iload_n 1, 1) := by decide +kernel
theorem d_M_isAlike_20 : decode prog_8_method_26_code 20 = .ok (.iaload, 1) := by decide +kernel
theorem d_M_isAlike_21 : decode prog_8_method_26_code 21 = .ok (.iload_n 2, 1) := by decide +kernel
theorem d_M_isAlike_22 : decode prog_8_method_26_code 22 = .ok (.if_icmp .ne 53, 3) := by decide +kernel
theorem d_M_isAlike_25 : decode prog_8_method_26_code 25 = .ok (.aload_n 0, 1) := by decide +kernel
theorem d_M_isAlike_26 : decode prog_8_method_26_code 26 = .ok (.getfield 49, 3) := by decide +kernel
theorem d_M_isAlike_29 : decode prog_8_method_26_code 29 = .ok (.iload_n 1, 1) := by decide +kernel
theorem d_M_isAlike_30 : decode prog_8_method_26_code 30 = .ok (.iaload, 1) := by decide +kernel
theorem d_M_isAlike_31 : decode prog_8_method_26_code 31 = .ok (.aload_n 0, 1) := by decide +kernel
theorem d_M_isAlike_32 : decode prog_8_method_26_code 32 = .ok (.getfield 49, 3) := by decide +kernel
theorem d_M_isAlike_35 : decode prog_8_method_26_code 35 = .ok (.iload_n 3, 1) := by decide +kernel
theorem d_M_isAlike_36 : decode prog_8_method_26_code 36 = .ok (.iaload, 1) := by decide +kernel
theorem d_M_isAlike_37 : decode prog_8_method_26_code 37 = .ok (.if_icmp .ne 38, 3) := by decide +kernel
theorem d_M_isAlike_40 : decode prog_8_method_26_code 40 = .ok (.aload_n 0, 1) := by decide +kernel
theorem d_M_isAlike_41 : decode prog_8_method_26_code 41 = .ok (.getfield 55, 3) := by decide +kernel
theorem d_M_isAlike_44 : decode prog_8_method_26_code 44 = .ok (.iload_n 1, 1) := by decide +kernel
theorem d_M_isAlike_45 : decode prog_8_method_26_code 45 = .ok (.laload, 1) := by decide +kernel
theorem d_M_isAlike_46 : decode prog_8_method_26_code 46 = .ok (.aload_n 0, 1) := by decide +kernel
theorem d_M_isAlike_47 : decode prog_8_method_26_code 47 = .ok (.getfield 55, 3) := by decide +kernel
theorem d_M_isAlike_50 : decode prog_8_method_26_code 50 = .ok (.iload_n 3, 1) := by decide +kernel
theorem d_M_isAlike_51 : decode prog_8_method_26_code 51 = .ok (.laload, 1) := by decide +kernel
theorem d_M_isAlike_52 : decode prog_8_method_26_code 52 = .ok (.lcmp, 1) := by decide +kernel
theorem d_M_isAlike_53 : decode prog_8_method_26_code 53 = .ok (.ifCond .ne 22, 3) := by decide +kernel
theorem d_M_isAlike_56 : decode prog_8_method_26_code 56 = .ok (.aload_n 0, 1) := by decide +kernel
theorem d_M_isAlike_57 : decode prog_8_method_26_code 57 = .ok (.getfield 52, 3) := by decide +kernel
theorem d_M_isAlike_60 : decode prog_8_method_26_code 60 = .ok (.iload_n 1, 1) := by decide +kernel
theorem d_M_isAlike_61 : decode prog_8_method_26_code 61 = .ok (.iaload, 1) := by decide +kernel
theorem d_M_isAlike_62 : decode prog_8_method_26_code 62 = .ok (.aload_n 0, 1) := by decide +kernel
theorem d_M_isAlike_63 : decode prog_8_method_26_code 63 = .ok (.getfield 52, 3) := by decide +kernel
theorem d_M_isAlike_66 : decode prog_8_method_26_code 66 = .ok (.iload_n 3, 1) := by decide +kernel
theorem d_M_isAlike_67 : decode prog_8_method_26_code 67 = .ok (.iaload, 1) := by decide +kernel
theorem d_M_isAlike_68 : decode prog_8_method_26_code 68 = .ok (.if_icmp .ne 7, 3) := by decide +kernel
theorem d_M_isAlike_71 : decode prog_8_method_26_code 71 = .ok (.iconst 1, 1) := by decide +kernel
theorem d_M_isAlike_72 : decode prog_8_method_26_code 72 = .ok (.goto 4, 3) := by decide +kernel
theorem d_M_isAlike_75 : decode prog_8_method_26_code 75 = .ok (.iconst 0, 1) := by decide +kernel
theorem d_M_isAlike_76 : decode prog_8_method_26_code 76 = .ok (.ireturn, 1) := by decide +kernel
theorem d_M_addPart_0 : decode prog_8_method_29_code 0 = .ok (.aload_n 0, 1) := by decide +kernel
theorem d_M_addPart_1 : decode prog_8_method_29_code 1 = .ok (.iload_n 1, 1) := by decide +kernel
theorem d_M_addPart_2 : decode prog_8_method_29_code 2 = .ok (.invokevirtual 129, 3) := by decide +kernel
theorem d_M_addPart_5 : decode prog_8_method_29_code 5 = .ok (.ifCond .eq 4, 3) := by decide +kernel
theorem d_M_addPart_8 : decode prog_8_method_29_code 8 = .ok (.return_, 1) := by decide +kernel
theorem d_M_addPart_9 : decode prog_8_method_29_code 9 = .ok (.aload_n 0, 1) := by decide +kernel
theorem d_M_addPart_10 : decode prog_8_method_29_code 10 = .ok (.getfield 21, 3) := by decide +kernel
theorem d_M_addPart_13 : decode prog_8_method_29_code 13 = .ok (.aload_n 0, 1) := by decide +kernel
theorem d_M_addPart_14 : decode prog_8_method_29_code 14 = .ok (.getfield 71, 3) := by decide +kernel
theorem d_M_addPart_17 : decode prog_8_method_29_code 17 = .ok (.iaload, 1) := by decide +kernel
theorem d_M_addPart_18 : decode prog_8_method_29_code 18 = .ok (.istore_n 2, 1) := by decide +kernel
theorem d_M_addPart_19 : decode prog_8_method_29_code 19 = .ok (.iload_n 2, 1) := by decide +kernel
theorem d_M_addPart_20 : decode prog_8_method_29_code 20 = .ok (.ifCond .le 70, 3) := by decide +kernel
theorem d_M_addPart_23 : decode prog_8_method_29_code 23 = .ok (.aload_n 0, 1) := by decide +kernel
theorem d_M_addPart_24 : decode prog_8_method_29_code 24 = .ok (.getfield 13, 3) := by decide +kernel
theorem d_M_addPart_27 : decode prog_8_method_29_code 27 = .ok (.sipush 600, 3) := by decide +kernel
theorem d_M_addPart_30 : decode prog_8_method_29_code 30 = .ok (.bipush 16, 2) := by decide +kernel
theorem d_M_addPart_32 : decode prog_8_method_29_code 32 = .ok (.aload_n 0, 1) := by decide +kernel
theorem d_M_addPart_33 : decode prog_8_method_29_code 33 = .ok (.getfield 71, 3) := by decide +kernel
theorem d_M_addPart_36 : decode prog_8_method_29_code 36 = .ok (.imul, 1) := by decide +kernel
theorem d_M_addPart_37 : decode prog_8_method_29_code 37 = .ok (.iadd, 1) := by decide +kernel
theorem d_M_addPart_38 : decode prog_8_method_29_code 38 = .ok (.iload_n 2, 1) := by decide +kernel
theorem d_M_addPart_39 : decode prog_8_method_29_code 39 = .ok (.iadd, 1) := by decide +kernel
theorem d_M_addPart_40 : decode prog_8_method_29_code 40 = .ok (.iconst 1, 1) := by decide +kernel
theorem d_M_addPart_41 : decode prog_8_method_29_code 41 = .ok (.isub, 1) := by decide +kernel
theorem d_M_addPart_42 : decode prog_8_method_29_code 42 = .ok (.iaload, 1) := by decide +kernel
theorem d_M_addPart_43 : decode prog_8_method_29_code 43 = .ok (.aload_n 0, 1) := by decide +kernel
theorem d_M_addPart_44 : decode prog_8_method_29_code 44 = .ok (.getfield 13, 3) := by decide +kernel
theorem d_M_addPart_47 : decode prog_8_method_29_code 47 = .ok (.iload_n 1, 1) := by decide +kernel
theorem d_M_addPart_48 : decode prog_8_method_29_code 48 = .ok (.iaload, 1) := by decide +kernel
theorem d_M_addPart_49 : decode prog_8_method_29_code 49 = .ok (.if_icmp .le 41, 3) := by decide +kernel
theorem d_M_addPart_52 : decode prog_8_method_29_code 52 = .ok (.aload_n 0, 1) := by decide +kernel
theorem d_M_addPart_53 : decode prog_8_method_29_code 53 = .ok (.sipush 600, 3) := by decide +kernel
theorem d_M_addPart_56 : decode prog_8_method_29_code 56 = .ok (.bipush 16, 2) := by decide +kernel
theorem d_M_addPart_58 : decode prog_8_method_29_code 58 = .ok (.aload_n 0, 1) := by decide +kernel
theorem d_M_addPart_59 : decode prog_8_method_29_code 59 = .ok (.getfield 71, 3) := by decide +kernel
theorem d_M_addPart_62 : decode prog_8_method_29_code 62 = .ok (.imul, 1) := by decide +kernel
theorem d_M_addPart_63 : decode prog_8_method_29_code 63 = .ok (.iadd, 1) := by decide +kernel
theorem d_M_addPart_64 : decode prog_8_method_29_code 64 = .ok (.iload_n 2, 1) := by decide +kernel
theorem d_M_addPart_65 : decode prog_8_method_29_code 65 = .ok (.iadd, 1) := by decide +kernel
theorem d_M_addPart_66 : decode prog_8_method_29_code 66 = .ok (.sipush 600, 3) := by decide +kernel
theorem d_M_addPart_69 : decode prog_8_method_29_code 69 = .ok (.bipush 16, 2) := by decide +kernel
theorem d_M_addPart_71 : decode prog_8_method_29_code 71 = .ok (.aload_n 0, 1) := by decide +kernel
theorem d_M_addPart_72 : decode prog_8_method_29_code 72 = .ok (.getfield 71, 3) := by decide +kernel
theorem d_M_addPart_75 : decode prog_8_method_29_code 75 = .ok (.imul, 1) := by decide +kernel
theorem d_M_addPart_76 : decode prog_8_method_29_code 76 = .ok (.iadd, 1) := by decide +kernel
theorem d_M_addPart_77 : decode prog_8_method_29_code 77 = .ok (.iload_n 2, 1) := by decide +kernel
theorem d_M_addPart_78 : decode prog_8_method_29_code 78 = .ok (.iadd, 1) := by decide +kernel
theorem d_M_addPart_79 : decode prog_8_method_29_code 79 = .ok (.iconst 1, 1) := by decide +kernel
theorem d_M_addPart_80 : decode prog_8_method_29_code 80 = .ok (.isub, 1) := by decide +kernel
theorem d_M_addPart_81 : decode prog_8_method_29_code 81 = .ok (.invokevirtual 132, 3) := by decide +kernel
theorem d_M_addPart_84 : decode prog_8_method_29_code 84 = .ok (.iinc 2 (-1), 3) := by decide +kernel
theorem d_M_addPart_87 : decode prog_8_method_29_code 87 = .ok (.goto (-68), 3) := by decide +kernel
theorem d_M_addPart_90 : decode prog_8_method_29_code 90 = .ok (.aload_n 0, 1) := by decide +kernel
theorem d_M_addPart_91 : decode prog_8_method_29_code 91 = .ok (.sipush 600, 3) := by decide +kernel
theorem d_M_addPart_94 : decode prog_8_method_29_code 94 = .ok (.bipush 16, 2) := by decide +kernel
theorem d_M_addPart_96 : decode prog_8_method_29_code 96 = .ok (.aload_n 0, 1) := by decide +kernel
theorem d_M_addPart_97 : decode prog_8_method_29_code 97 = .ok (.getfield 71, 3) := by decide +kernel
theorem d_M_addPart_100 : decode prog_8_method_29_code 100 = .ok (.imul, 1) := by decide +kernel
theorem d_M_addPart_101 : decode prog_8_method_29_code 101 = .ok (.iadd, 1) := by decide +kernel
theorem d_M_addPart_102 : decode prog_8_method_29_code 102 = .ok (.iload_n 2, 1) := by decide +kernel
theorem d_M_addPart_103 : decode prog_8_method_29_code 103 = .ok (.iadd, 1) := by decide +kernel
theorem d_M_addPart_104 : decode prog_8_method_29_code 104 = .ok (.iload_n 1, 1) := by decide +kernel
theorem d_M_addPart_105 : decode prog_8_method_29_code 105 = .ok (.invokevirtual 132, 3) := by decide +kernel
theorem d_M_addPart_108 : decode prog_8_method_29_code 108 = .ok (.aload_n 0, 1) := by decide +kernel
theorem d_M_addPart_109 : decode prog_8_method_29_code 109 = .ok (.getfield 21, 3) := by decide +kernel
theorem d_M_addPart_112 : decode prog_8_method_29_code 112 = .ok (.aload_n 0, 1) := by decide +kernel
theorem d_M_addPart_113 : decode prog_8_method_29_code 113 = .ok (.getfield 71, 3) := by decide +kernel
theorem d_M_addPart_116 : decode prog_8_method_29_code 116 = .ok (.dup2, 1) := by decide +kernel
theorem d_M_addPart_117 : decode prog_8_method_29_code 117 = .ok (.iaload, 1) := by decide +kernel
theorem d_M_addPart_118 : decode prog_8_method_29_code 118 = .ok (.iconst 1, 1) := by decide +kernel
theorem d_M_addPart_119 : decode prog_8_method_29_code 119 = .ok (.iadd, 1) := by decide +kernel
theorem d_M_addPart_120 : decode prog_8_method_29_code 120 = .ok (.iastore, 1) := by decide +kernel
theorem d_M_addPart_121 : decode prog_8_method_29_code 121 = .ok (.return_, 1) := by decide +kernel
theorem d_M_isFull_0 : decode prog_8_method_13_code 0 = .ok (.aload_n 0, 1) := by decide +kernel
theorem d_M_isFull_1 : decode prog_8_method_13_code 1 = .ok (.iload_n 1, 1) := by decide +kernel
theorem d_M_isFull_2 : decode prog_8_method_13_code 2 = .ok (.iconst (-1), 1) := by decide +kernel
theorem d_M_isFull_3 : decode prog_8_method_13_code 3 = .ok (.invokevirtual 82, 3) := by decide +kernel
theorem d_M_isFull_6 : decode prog_8_method_13_code 6 = .ok (.istore_n 2, 1) := by decide +kernel
theorem d_M_isFull_7 : decode prog_8_method_13_code 7 = .ok (.iconst 0, 1) := by decide +kernel
theorem d_M_isFull_8 : decode prog_8_method_13_code 8 = .ok (.istore_n 3, 1) := by decide +kernel
theorem d_M_isFull_9 : decode prog_8_method_13_code 9 = .ok (.iload_n 3, 1) := by decide +kernel
theorem d_M_isFull_10 : decode prog_8_method_13_code 10 = .ok (.aload_n 0, 1) := by decide +kernel
theorem d_M_isFull_11 : decode prog_8_method_13_code 11 = .ok (.getfield 7, 3) := by decide +kernel
theorem d_M_isFull_14 : decode prog_8_method_13_code 14 = .ok (.aload_n 0, 1) := by decide +kernel
theorem d_M_isFull_15 : decode prog_8_method_13_code 15 = .ok (.getfield 13, 3) := by decide +kernel
theorem d_M_isFull_18 : decode prog_8_method_13_code 18 = .ok (.iload_n 1, 1) := by decide +kernel
theorem d_M_isFull_19 : decode prog_8_method_13_code 19 = .ok (.iaload, 1) := by decide +kernel
theorem d_M_isFull_20 : decode prog_8_method_13_code 20 = .ok (.iaload, 1) := by decide +kernel
theorem d_M_isFull_21 : decode prog_8_method_13_code 21 = .ok (.if_icmp .ge 28, 3) := by decide +kernel
theorem d_M_isFull_24 : decode prog_8_method_13_code 24 = .ok (.iload_n 2, 1) := by decide +kernel
theorem d_M_isFull_25 : decode prog_8_method_13_code 25 = .ok (.ifCond .eq 16, 3) := by decide +kernel
theorem d_M_isFull_28 : decode prog_8_method_13_code 28 = .ok (.aload_n 0, 1) := by decide +kernel
theorem d_M_isFull_29 : decode prog_8_method_13_code 29 = .ok (.iload_n 1, 1) := by decide +kernel
theorem d_M_isFull_30 : decode prog_8_method_13_code 30 = .ok (.iload_n 3, 1) := by decide +kernel
theorem d_M_isFull_31 : decode prog_8_method_13_code 31 = .ok (.invokevirtual 82, 3) := by decide +kernel
theorem d_M_isFull_34 : decode prog_8_method_13_code 34 = .ok (.ifCond .eq 7, 3) := by decide +kernel
theorem d_M_isFull_37 : decode prog_8_method_13_code 37 = .ok (.iconst 1, 1) := by decide +kernel
theorem d_M_isFull_38 : decode prog_8_method_13_code 38 = .ok (.goto 4, 3) := by decide +kernel
theorem d_M_isFull_41 : decode prog_8_method_13_code 41 = .ok (.iconst 0, 1) := by decide +kernel
theorem d_M_isFull_42 : decode prog_8_method_13_code 42 = .ok (.istore_n 2, 1) := by decide +kernel
theorem d_M_isFull_43 : decode prog_8_method_13_code 43 = .ok (.iinc 3 1, 3) := by decide +kernel
theorem d_M_isFull_46 : decode prog_8_method_13_code 46 = .ok (.goto (-37), 3) := by decide +kernel
theorem d_M_isFull_49 : decode prog_8_method_13_code 49 = .ok (.iload_n 2, 1) := by decide +kernel
theorem d_M_isFull_50 : decode prog_8_method_13_code 50 = .ok (.ireturn, 1) := by decide +kernel
theorem d_M_copy_0 : decode prog_8_method_11_code 0 = .ok (.aload_n 0, 1) := by decide +kernel
theorem d_M_copy_1 : decode prog_8_method_11_code 1 = .ok (.getfield 13, 3) := by decide +kernel
theorem d_M_copy_4 : decode prog_8_method_11_code 4 = .ok (.iload_n 1, 1) := by decide +kernel
theorem d_M_copy_5 : decode prog_8_method_11_code 5 = .ok (.aload_n 0, 1) := by decide +kernel
theorem d_M_copy_6 : decode prog_8_method_11_code 6 = .ok (.getfield 13, 3) := by decide +kernel
theorem d_M_copy_9 : decode prog_8_method_11_code 9 = .ok (.iload_n 2, 1) := by decide +kernel
theorem d_M_copy_10 : decode prog_8_method_11_code 10 = .ok (.iaload, 1) := by decide +kernel
theorem d_M_copy_11 : decode prog_8_method_11_code 11 = .ok (.iastore, 1) := by decide +kernel
theorem d_M_copy_12 : decode prog_8_method_11_code 12 = .ok (.iconst (-1), 1) := by decide +kernel
theorem d_M_copy_13 : decode prog_8_method_11_code 13 = .ok (.istore_n 3, 1) := by decide +kernel
theorem d_M_copy_14 : decode prog_8_method_11_code 14 = .ok (.iload_n 3, 1) := by decide +kernel
theorem d_M_copy_15 : decode prog_8_method_11_code 15 = .ok (.bipush 48, 2) := by decide +kernel
theorem d_M_copy_17 : decode prog_8_method_11_code 17 = .ok (.if_icmp .ge 21, 3) := by decide +kernel
theorem d_M_copy_20 : decode prog_8_method_11_code 20 = .ok (.aload_n 0, 1) := by decide +kernel
theorem d_M_copy_21 : decode prog_8_method_11_code 21 = .ok (.iload_n 1, 1) := by decide +kernel
theorem d_M_copy_22 : decode prog_8_method_11_code 22 = .ok (.iload_n 3, 1) := by decide +kernel
theorem d_M_copy_23 : decode prog_8_method_11_code 23 = .ok (.aload_n 0, 1) := by decide +kernel
theorem d_M_copy_24 : decode prog_8_method_11_code 24 = .ok (.iload_n 2, 1) := by decide +kernel
theorem d_M_copy_25 : decode prog_8_method_11_code 25 = .ok (.iload_n 3, 1) := by decide +kernel
theorem d_M_copy_26 : decode prog_8_method_11_code 26 = .ok (.invokevirtual 82, 3) := by decide +kernel
theorem d_M_copy_29 : decode prog_8_method_11_code 29 = .ok (.invokevirtual 78, 3) := by decide +kernel
theorem d_M_copy_32 : decode prog_8_method_11_code 32 = .ok (.iinc 3 1, 3) := by decide +kernel
theorem d_M_copy_35 : decode prog_8_method_11_code 35 = .ok (.goto (-21), 3) := by decide +kernel
theorem d_M_copy_38 : decode prog_8_method_11_code 38 = .ok (.return_, 1) := by decide +kernel
theorem d_M_bar_0 : decode prog_8_method_33_code 0 = .ok (.aload_n 0, 1) := by decide +kernel
theorem d_M_bar_1 : decode prog_8_method_33_code 1 = .ok (.iconst 0, 1) := by decide +kernel
theorem d_M_bar_2 : decode prog_8_method_33_code 2 = .ok (.putfield 61, 3) := by decide +kernel
theorem d_M_bar_5 : decode prog_8_method_33_code 5 = .ok (.aload_n 0, 1) := by decide +kernel
theorem d_M_bar_6 : decode prog_8_method_33_code 6 = .ok (.iload_n 1, 1) := by decide +kernel
theorem d_M_bar_7 : decode prog_8_method_33_code 7 = .ok (.invokevirtual 93, 3) := by decide +kernel
theorem d_M_bar_10 : decode prog_8_method_33_code 10 = .ok (.ifCond .eq 13, 3) := by decide +kernel
theorem d_M_bar_13 : decode prog_8_method_33_code 13 = .ok (.aload_n 0, 1) := by decide +kernel
theorem d_M_bar_14 : decode prog_8_method_33_code 14 = .ok (.getfield 71, 3) := by decide +kernel
theorem d_M_bar_17 : decode prog_8_method_33_code 17 = .ok (.sipush 300, 3) := by decide +kernel
theorem d_M_bar_20 : decode prog_8_method_33_code 20 = .ok (.if_icmp .ne 5, 3) := by decide +kernel
theorem d_M_bar_23 : decode prog_8_method_33_code 23 = .ok (.iconst (-1), 1) := by decide +kernel
theorem d_M_bar_24 : decode prog_8_method_33_code 24 = .ok (.ireturn, 1) := by decide +kernel
theorem d_M_bar_25 : decode prog_8_method_33_code 25 = .ok (.aload_n 0, 1) := by decide +kernel
theorem d_M_bar_26 : decode prog_8_method_33_code 26 = .ok (.invokevirtual 136, 3) := by decide +kernel
theorem d_M_bar_29 : decode prog_8_method_33_code 29 = .ok (.aload_n 0, 1) := by decide +kernel
theorem d_M_bar_30 : decode prog_8_method_33_code 30 = .ok (.sipush 5416, 3) := by decide +kernel
theorem d_M_bar_33 : decode prog_8_method_33_code 33 = .ok (.iload_n 1, 1) := by decide +kernel
theorem d_M_bar_34 : decode prog_8_method_33_code 34 = .ok (.lload_n 2, 1) := by decide +kernel
theorem d_M_bar_35 : decode prog_8_method_33_code 35 = .ok (.iload 4, 2) := by decide +kernel
theorem d_M_bar_37 : decode prog_8_method_33_code 37 = .ok (.ifCond .ne 7, 3) := by decide +kernel
theorem d_M_bar_40 : decode prog_8_method_33_code 40 = .ok (.iconst 1, 1) := by decide +kernel
theorem d_M_bar_41 : decode prog_8_method_33_code 41 = .ok (.goto 4, 3) := by decide +kernel
theorem d_M_bar_44 : decode prog_8_method_33_code 44 = .ok (.iconst 0, 1) := by decide +kernel
theorem d_M_bar_45 : decode prog_8_method_33_code 45 = .ok (.invokevirtual 96, 3) := by decide +kernel
theorem d_M_bar_48 : decode prog_8_method_33_code 48 = .ok (.aload_n 0, 1) := by decide +kernel
theorem d_M_bar_49 : decode prog_8_method_33_code 49 = .ok (.sipush 5416, 3) := by decide +kernel
theorem d_M_bar_52 : decode prog_8_method_33_code 52 = .ok (.invokevirtual 142, 3) := by decide +kernel
theorem d_M_bar_55 : decode prog_8_method_33_code 55 = .ok (.aload_n 0, 1) := by decide +kernel
theorem d_M_bar_56 : decode prog_8_method_33_code 56 = .ok (.dup, 1) := by decide +kernel
theorem d_M_bar_57 : decode prog_8_method_33_code 57 = .ok (.getfield 71, 3) := by decide +kernel
theorem d_M_bar_60 : decode prog_8_method_33_code 60 = .ok (.iconst 1, 1) := by decide +kernel
theorem d_M_bar_61 : decode prog_8_method_33_code 61 = .ok (.iadd, 1) := by decide +kernel
theorem d_M_bar_62 : decode prog_8_method_33_code 62 = .ok (.putfield 71, 3) := by decide +kernel
theorem d_M_bar_65 : decode prog_8_method_33_code 65 = .ok (.aload_n 0, 1) := by decide +kernel
theorem d_M_bar_66 : decode prog_8_method_33_code 66 = .ok (.getfield 71, 3) := by decide +kernel
theorem d_M_bar_69 : decode prog_8_method_33_code 69 = .ok (.iconst 1, 1) := by decide +kernel
theorem d_M_bar_70 : decode prog_8_method_33_code 70 = .ok (.isub, 1) := by decide +kernel
theorem d_M_bar_71 : decode prog_8_method_33_code 71 = .ok (.ireturn, 1) := by decide +kernel
theorem d_M_learn_0 : decode prog_8_method_35_code 0 = .ok (.aload_n 0, 1) := by decide +kernel
theorem d_M_learn_1 : decode prog_8_method_35_code 1 = .ok (.iconst 0, 1) := by decide +kernel
theorem d_M_learn_2 : decode prog_8_method_35_code 2 = .ok (.putfield 61, 3) := by decide +kernel
theorem d_M_learn_5 : decode prog_8_method_35_code 5 = .ok (.aload_n 0, 1) := by decide +kernel
theorem d_M_learn_6 : decode prog_8_method_35_code 6 = .ok (.iload_n 1, 1) := by decide +kernel
theorem d_M_learn_7 : decode prog_8_method_35_code 7 = .ok (.invokevirtual 151, 3) := by decide +kernel
theorem d_M_learn_10 : decode prog_8_method_35_code 10 = .ok (.ifCond .eq 41, 3) := by decide +kernel
theorem d_M_learn_13 : decode prog_8_method_35_code 13 = .ok (.aload_n 0, 1) := by decide +kernel
theorem d_M_learn_14 : decode prog_8_method_35_code 14 = .ok (.iload_n 2, 1) := by decide +kernel
theorem d_M_learn_15 : decode prog_8_method_35_code 15 = .ok (.invokevirtual 151, 3) := by decide +kernel
theorem d_M_learn_18 : decode prog_8_method_35_code 18 = .ok (.ifCond .eq 33, 3) := by decide +kernel
theorem d_M_learn_21 : decode prog_8_method_35_code 21 = .ok (.aload_n 0, 1) := by decide +kernel
theorem d_M_learn_22 : decode prog_8_method_35_code 22 = .ok (.getfield 71, 3) := by decide +kernel
theorem d_M_learn_25 : decode prog_8_method_35_code 25 = .ok (.sipush 300, 3) := by decide +kernel
theorem d_M_learn_28 : decode prog_8_method_35_code 28 = .ok (.if_icmp .eq 23, 3) := by decide +kernel
theorem d_M_learn_31 : decode prog_8_method_35_code 31 = .ok (.aload_n 0, 1) := by decide +kernel
theorem d_M_learn_32 : decode prog_8_method_35_code 32 = .ok (.iload_n 1, 1) := by decide +kernel
theorem d_M_learn_33 : decode prog_8_method_35_code 33 = .ok (.iload_n 3, 1) := by decide +kernel
theorem d_M_learn_34 : decode prog_8_method_35_code 34 = .ok (.invokevirtual 154, 3) := by decide +kernel
theorem d_M_learn_37 : decode prog_8_method_35_code 37 = .ok (.iconst (-1), 1) := by decide +kernel
theorem d_M_learn_38 : decode prog_8_method_35_code 38 = .ok (.if_icmp .eq 13, 3) := by decide +kernel
theorem d_M_learn_41 : decode prog_8_method_35_code 41 = .ok (.aload_n 0, 1) := by decide +kernel
theorem d_M_learn_42 : decode prog_8_method_35_code 42 = .ok (.iload_n 2, 1) := by decide +kernel
theorem d_M_learn_43 : decode prog_8_method_35_code 43 = .ok (.iload_n 3, 1) := by decide +kernel
theorem d_M_learn_44 : decode prog_8_method_35_code 44 = .ok (.invokevirtual 154, 3) := by decide +kernel
theorem d_M_learn_47 : decode prog_8_method_35_code 47 = .ok (.iconst (-1), 1) := by decide +kernel
theorem d_M_learn_48 : decode prog_8_method_35_code 48 = .ok (.if_icmp .ne 5, 3) := by decide +kernel
theorem d_M_learn_51 : decode prog_8_method_35_code 51 = .ok (.iconst (-1), 1) := by decide +kernel
theorem d_M_learn_52 : decode prog_8_method_35_code 52 = .ok (.ireturn, 1) := by decide +kernel
theorem d_M_learn_53 : decode prog_8_method_35_code 53 = .ok (.aload_n 0, 1) := by decide +kernel
theorem d_M_learn_54 : decode prog_8_method_35_code 54 = .ok (.invokevirtual 136, 3) := by decide +kernel
theorem d_M_learn_57 : decode prog_8_method_35_code 57 = .ok (.iconst 0, 1) := by decide +kernel
theorem d_M_learn_58 : decode prog_8_method_35_code 58 = .ok (.istore 4, 2) := by decide +kernel
theorem d_M_learn_60 : decode prog_8_method_35_code 60 = .ok (.iload 4, 2) := by decide +kernel
theorem d_M_learn_62 : decode prog_8_method_35_code 62 = .ok (.aload_n 0, 1) := by decide +kernel
theorem d_M_learn_63 : decode prog_8_method_35_code 63 = .ok (.getfield 65, 3) := by decide +kernel
theorem d_M_learn_66 : decode prog_8_method_35_code 66 = .ok (.if_icmp .ge 93, 3) := by decide +kernel
theorem d_M_learn_69 : decode prog_8_method_35_code 69 = .ok (.aload_n 0, 1) := by decide +kernel
theorem d_M_learn_70 : decode prog_8_method_35_code 70 = .ok (.iload_n 1, 1) := by decide +kernel
theorem d_M_learn_71 : decode prog_8_method_35_code 71 = .ok (.iload 4, 2) := by decide +kernel
theorem d_M_learn_73 : decode prog_8_method_35_code 73 = .ok (.invokevirtual 154, 3) := by decide +kernel
theorem d_M_learn_76 : decode prog_8_method_35_code 76 = .ok (.istore 5, 2) := by decide +kernel
theorem d_M_learn_78 : decode prog_8_method_35_code 78 = .ok (.aload_n 0, 1) := by decide +kernel
theorem d_M_learn_79 : decode prog_8_method_35_code 79 = .ok (.iload_n 2, 1) := by decide +kernel
theorem d_M_learn_80 : decode prog_8_method_35_code 80 = .ok (.iload 4, 2) := by decide +kernel
theorem d_M_learn_82 : decode prog_8_method_35_code 82 = .ok (.invokevirtual 154, 3) := by decide +kernel
theorem d_M_learn_85 : decode prog_8_method_35_code 85 = .ok (.istore 6, 2) := by decide +kernel
theorem d_M_learn_87 : decode prog_8_method_35_code 87 = .ok (.iload 5, 2) := by decide +kernel
theorem d_M_learn_89 : decode prog_8_method_35_code 89 = .ok (.iconst (-1), 1) := by decide +kernel
theorem d_M_learn_90 : decode prog_8_method_35_code 90 = .ok (.if_icmp .ne 12, 3) := by decide +kernel
theorem d_M_learn_93 : decode prog_8_method_35_code 93 = .ok (.iload 6, 2) := by decide +kernel
theorem d_M_learn_95 : decode prog_8_method_35_code 95 = .ok (.iconst (-1), 1) := by decide +kernel
theorem d_M_learn_96 : decode prog_8_method_35_code 96 = .ok (.if_icmp .ne 6, 3) := by decide +kernel
theorem d_M_learn_99 : decode prog_8_method_35_code 99 = .ok (.goto 54, 3) := by decide +kernel
theorem d_M_learn_102 : decode prog_8_method_35_code 102 = .ok (.aload_n 0, 1) := by decide +kernel
theorem d_M_learn_103 : decode prog_8_method_35_code 103 = .ok (.sipush 5416, 3) := by decide +kernel
theorem d_M_learn_106 : decode prog_8_method_35_code 106 = .ok (.iload 5, 2) := by decide +kernel
theorem d_M_learn_108 : decode prog_8_method_35_code 108 = .ok (.iconst (-1), 1) := by decide +kernel
theorem d_M_learn_109 : decode prog_8_method_35_code 109 = .ok (.if_icmp .ne 8, 3) := by decide +kernel
theorem d_M_learn_112 : decode prog_8_method_35_code 112 = .ok (.iload 6, 2) := by decide +kernel
theorem d_M_learn_114 : decode prog_8_method_35_code 114 = .ok (.goto 5, 3) := by decide +kernel
theorem d_M_learn_117 : decode prog_8_method_35_code 117 = .ok (.iload 5, 2) := by decide +kernel
theorem d_M_learn_119 : decode prog_8_method_35_code 119 = .ok (.iload 6, 2) := by decide +kernel
theorem d_M_learn_121 : decode prog_8_method_35_code 121 = .ok (.iconst (-1), 1) := by decide +kernel
theorem d_M_learn_122 : decode prog_8_method_35_code 122 = .ok (.if_icmp .ne 8, 3) := by decide +kernel
theorem d_M_learn_125 : decode prog_8_method_35_code 125 = .ok (.iload 5, 2) := by decide +kernel
theorem d_M_learn_127 : decode prog_8_method_35_code 127 = .ok (.goto 5, 3) := by decide +kernel
theorem d_M_learn_130 : decode prog_8_method_35_code 130 = .ok (.iload 6, 2) := by decide +kernel
theorem d_M_learn_132 : decode prog_8_method_35_code 132 = .ok (.iload 4, 2) := by decide +kernel
theorem d_M_learn_134 : decode prog_8_method_35_code 134 = .ok (.iload_n 3, 1) := by decide +kernel
theorem d_M_learn_135 : decode prog_8_method_35_code 135 = .ok (.if_icmp .ne 7, 3) := by decide +kernel
theorem d_M_learn_138 : decode prog_8_method_35_code 138 = .ok (.iconst 1, 1) := by decide +kernel
theorem d_M_learn_139 : decode prog_8_method_35_code 139 = .ok (.goto 4, 3) := by decide +kernel
theorem d_M_learn_142 : decode prog_8_method_35_code 142 = .ok (.iconst 0, 1) := by decide +kernel
theorem d_M_learn_143 : decode prog_8_method_35_code 143 = .ok (.invokevirtual 103, 3) := by decide +kernel
theorem d_M_learn_146 : decode prog_8_method_35_code 146 = .ok (.aload_n 0, 1) := by decide +kernel
theorem d_M_learn_147 : decode prog_8_method_35_code 147 = .ok (.sipush 5416, 3) := by decide +kernel
theorem d_M_learn_150 : decode prog_8_method_35_code 150 = .ok (.invokevirtual 142, 3) := by decide +kernel
theorem d_M_learn_153 : decode prog_8_method_35_code 153 = .ok (.iinc 4 1, 3) := by decide +kernel
theorem d_M_learn_156 : decode prog_8_method_35_code 156 = .ok (.goto (-96), 3) := by decide +kernel
theorem d_M_learn_159 : decode prog_8_method_35_code 159 = .ok (.aload_n 0, 1) := by decide +kernel
theorem d_M_learn_160 : decode prog_8_method_35_code 160 = .ok (.dup, 1) := by decide +kernel
theorem d_M_learn_161 : decode prog_8_method_35_code 161 = .ok (.getfield 71, 3) := by decide +kernel
theorem d_M_learn_164 : decode prog_8_method_35_code 164 = .ok (.iconst 1, 1) := by decide +kernel
theorem d_M_learn_165 : decode prog_8_method_35_code 165 = .ok (.iadd, 1) := by decide +kernel
theorem d_M_learn_166 : decode prog_8_method_35_code 166 = .ok (.putfield 71, 3) := by decide +kernel
theorem d_M_learn_169 : decode prog_8_method_35_code 169 = .ok (.aload_n 0, 1) := by decide +kernel
theorem d_M_learn_170 : decode prog_8_method_35_code 170 = .ok (.getfield 71, 3) := by decide +kernel
theorem d_M_learn_173 : decode prog_8_method_35_code 173 = .ok (.iconst 1, 1) := by decide +kernel
theorem d_M_learn_174 : decode prog_8_method_35_code 174 = .ok (.isub, 1) := by decide +kernel
theorem d_M_learn_175 : decode prog_8_method_35_code 175 = .ok (.ireturn, 1) := by decide +kernel
theorem d_M_isBar_0 : decode prog_8_method_5_code 0 = .ok (.iload_n 1, 1) := by decide +kernel
theorem d_M_isBar_1 : decode prog_8_method_5_code 1 = .ok (.ifCond .lt 15, 3) := by decide +kernel
theorem d_M_isBar_4 : decode prog_8_method_5_code 4 = .ok (.iload_n 1, 1) := by decide +kernel
theorem d_M_isBar_5 : decode prog_8_method_5_code 5 = .ok (.aload_n 0, 1) := by decide +kernel
theorem d_M_isBar_6 : decode prog_8_method_5_code 6 = .ok (.getfield 71, 3) := by decide +kernel
theorem d_M_isBar_9 : decode prog_8_method_5_code 9 = .ok (.if_icmp .ge 7, 3) := by decide +kernel
theorem d_M_isBar_12 : decode prog_8_method_5_code 12 = .ok (.iconst 1, 1) := by decide +kernel
theorem d_M_isBar_13 : decode prog_8_method_5_code 13 = .ok (.goto 4, 3) := by decide +kernel
theorem d_M_isBar_16 : decode prog_8_method_5_code 16 = .ok (.iconst 0, 1) := by decide +kernel
theorem d_M_isBar_17 : decode prog_8_method_5_code 17 = .ok (.ireturn, 1) := by decide +kernel
theorem d_M_partOf_0 : decode prog_8_method_34_code 0 = .ok (.iconst (-1), 1) := by decide +kernel
theorem d_M_partOf_1 : decode prog_8_method_34_code 1 = .ok (.istore_n 3, 1) := by decide +kernel
theorem d_M_partOf_2 : decode prog_8_method_34_code 2 = .ok (.iconst 0, 1) := by decide +kernel
theorem d_M_partOf_3 : decode prog_8_method_34_code 3 = .ok (.istore 4, 2) := by decide +kernel
theorem d_M_partOf_5 : decode prog_8_method_34_code 5 = .ok (.iload 4, 2) := by decide +kernel
theorem d_M_partOf_7 : decode prog_8_method_34_code 7 = .ok (.aload_n 0, 1) := by decide +kernel
theorem d_M_partOf_8 : decode prog_8_method_34_code 8 = .ok (.getfield 21, 3) := by decide +kernel
theorem d_M_partOf_11 : decode prog_8_method_34_code 11 = .ok (.iload_n 1, 1) := by decide +kernel
theorem d_M_partOf_12 : decode prog_8_method_34_code 12 = .ok (.iaload, 1) := by decide +kernel
theorem d_M_partOf_13 : decode prog_8_method_34_code 13 = .ok (.if_icmp .ge 45, 3) := by decide +kernel
theorem d_M_partOf_16 : decode prog_8_method_34_code 16 = .ok (.aload_n 0, 1) := by decide +kernel
theorem d_M_partOf_17 : decode prog_8_method_34_code 17 = .ok (.getfield 13, 3) := by decide +kernel
theorem d_M_partOf_20 : decode prog_8_method_34_code 20 = .ok (.sipush 600, 3) := by decide +kernel
theorem d_M_partOf_23 : decode prog_8_method_34_code 23 = .ok (.bipush 16, 2) := by decide +kernel
theorem d_M_partOf_25 : decode prog_8_method_34_code 25 = .ok (.iload_n 1, 1) := by decide +kernel
theorem d_M_partOf_26 : decode prog_8_method_34_code 26 = .ok (.imul, 1) := by decide +kernel
theorem d_M_partOf_27 : decode prog_8_method_34_code 27 = .ok (.iadd, 1) := by decide +kernel
theorem d_M_partOf_28 : decode prog_8_method_34_code 28 = .ok (.iload 4, 2) := by decide +kernel
theorem d_M_partOf_30 : decode prog_8_method_34_code 30 = .ok (.iadd, 1) := by decide +kernel
theorem d_M_partOf_31 : decode prog_8_method_34_code 31 = .ok (.iaload, 1) := by decide +kernel
theorem d_M_partOf_32 : decode prog_8_method_34_code 32 = .ok (.iload_n 2, 1) := by decide +kernel
theorem d_M_partOf_33 : decode prog_8_method_34_code 33 = .ok (.if_icmp .ne 17, 3) := by decide +kernel
theorem d_M_partOf_36 : decode prog_8_method_34_code 36 = .ok (.sipush 600, 3) := by decide +kernel
theorem d_M_partOf_39 : decode prog_8_method_34_code 39 = .ok (.bipush 16, 2) := by decide +kernel
theorem d_M_partOf_41 : decode prog_8_method_34_code 41 = .ok (.iload_n 1, 1) := by decide +kernel
theorem d_M_partOf_42 : decode prog_8_method_34_code 42 = .ok (.imul, 1) := by decide +kernel
theorem d_M_partOf_43 : decode prog_8_method_34_code 43 = .ok (.iadd, 1) := by decide +kernel
theorem d_M_partOf_44 : decode prog_8_method_34_code 44 = .ok (.iload 4, 2) := by decide +kernel
theorem d_M_partOf_46 : decode prog_8_method_34_code 46 = .ok (.iadd, 1) := by decide +kernel
theorem d_M_partOf_47 : decode prog_8_method_34_code 47 = .ok (.goto 4, 3) := by decide +kernel
theorem d_M_partOf_50 : decode prog_8_method_34_code 50 = .ok (.iload_n 3, 1) := by decide +kernel
theorem d_M_partOf_51 : decode prog_8_method_34_code 51 = .ok (.istore_n 3, 1) := by decide +kernel
theorem d_M_partOf_52 : decode prog_8_method_34_code 52 = .ok (.iinc 4 1, 3) := by decide +kernel
theorem d_M_partOf_55 : decode prog_8_method_34_code 55 = .ok (.goto (-50), 3) := by decide +kernel
theorem d_M_partOf_58 : decode prog_8_method_34_code 58 = .ok (.iload_n 3, 1) := by decide +kernel
theorem d_M_partOf_59 : decode prog_8_method_34_code 59 = .ok (.ireturn, 1) := by decide +kernel
theorem d_M_count_0 : decode prog_8_method_36_code 0 = .ok (.aload_n 0, 1) := by decide +kernel
theorem d_M_count_1 : decode prog_8_method_36_code 1 = .ok (.iconst 0, 1) := by decide +kernel
theorem d_M_count_2 : decode prog_8_method_36_code 2 = .ok (.putfield 61, 3) := by decide +kernel
theorem d_M_count_5 : decode prog_8_method_36_code 5 = .ok (.aload_n 0, 1) := by decide +kernel
theorem d_M_count_6 : decode prog_8_method_36_code 6 = .ok (.getfield 71, 3) := by decide +kernel
theorem d_M_count_9 : decode prog_8_method_36_code 9 = .ok (.ireturn, 1) := by decide +kernel
theorem d_M_terms_0 : decode prog_8_method_37_code 0 = .ok (.aload_n 0, 1) := by decide +kernel
theorem d_M_terms_1 : decode prog_8_method_37_code 1 = .ok (.iconst 0, 1) := by decide +kernel
theorem d_M_terms_2 : decode prog_8_method_37_code 2 = .ok (.putfield 61, 3) := by decide +kernel
theorem d_M_terms_5 : decode prog_8_method_37_code 5 = .ok (.aload_n 0, 1) := by decide +kernel
theorem d_M_terms_6 : decode prog_8_method_37_code 6 = .ok (.iload_n 1, 1) := by decide +kernel
theorem d_M_terms_7 : decode prog_8_method_37_code 7 = .ok (.invokevirtual 151, 3) := by decide +kernel
theorem d_M_terms_10 : decode prog_8_method_37_code 10 = .ok (.ifCond .eq 12, 3) := by decide +kernel
theorem d_M_terms_13 : decode prog_8_method_37_code 13 = .ok (.aload_n 0, 1) := by decide +kernel
theorem d_M_terms_14 : decode prog_8_method_37_code 14 = .ok (.getfield 21, 3) := by decide +kernel
theorem d_M_terms_17 : decode prog_8_method_37_code 17 = .ok (.iload_n 1, 1) := by decide +kernel
theorem d_M_terms_18 : decode prog_8_method_37_code 18 = .ok (.iaload, 1) := by decide +kernel
theorem d_M_terms_19 : decode prog_8_method_37_code 19 = .ok (.goto 4, 3) := by decide +kernel
theorem d_M_terms_22 : decode prog_8_method_37_code 22 = .ok (.iconst (-1), 1) := by decide +kernel
theorem d_M_terms_23 : decode prog_8_method_37_code 23 = .ok (.ireturn, 1) := by decide +kernel
theorem d_M_part_0 : decode prog_8_method_39_code 0 = .ok (.aload_n 0, 1) := by decide +kernel
theorem d_M_part_1 : decode prog_8_method_39_code 1 = .ok (.iconst 0, 1) := by decide +kernel
theorem d_M_part_2 : decode prog_8_method_39_code 2 = .ok (.putfield 61, 3) := by decide +kernel
theorem d_M_part_5 : decode prog_8_method_39_code 5 = .ok (.aload_n 0, 1) := by decide +kernel
theorem d_M_part_6 : decode prog_8_method_39_code 6 = .ok (.iload_n 1, 1) := by decide +kernel
theorem d_M_part_7 : decode prog_8_method_39_code 7 = .ok (.iload_n 2, 1) := by decide +kernel
theorem d_M_part_8 : decode prog_8_method_39_code 8 = .ok (.invokevirtual 157, 3) := by decide +kernel
theorem d_M_part_11 : decode prog_8_method_39_code 11 = .ok (.ifCond .eq 21, 3) := by decide +kernel
theorem d_M_part_14 : decode prog_8_method_39_code 14 = .ok (.aload_n 0, 1) := by decide +kernel
theorem d_M_part_15 : decode prog_8_method_39_code 15 = .ok (.sipush 600, 3) := by decide +kernel
theorem d_M_part_18 : decode prog_8_method_39_code 18 = .ok (.bipush 16, 2) := by decide +kernel
theorem d_M_part_20 : decode prog_8_method_39_code 20 = .ok (.iload_n 1, 1) := by decide +kernel
theorem d_M_part_21 : decode prog_8_method_39_code 21 = .ok (.imul, 1) := by decide +kernel
theorem d_M_part_22 : decode prog_8_method_39_code 22 = .ok (.iadd, 1) := by decide +kernel
theorem d_M_part_23 : decode prog_8_method_39_code 23 = .ok (.iload_n 2, 1) := by decide +kernel
theorem d_M_part_24 : decode prog_8_method_39_code 24 = .ok (.iadd, 1) := by decide +kernel
theorem d_M_part_25 : decode prog_8_method_39_code 25 = .ok (.iload_n 3, 1) := by decide +kernel
theorem d_M_part_26 : decode prog_8_method_39_code 26 = .ok (.invokevirtual 111, 3) := by decide +kernel
theorem d_M_part_29 : decode prog_8_method_39_code 29 = .ok (.goto 4, 3) := by decide +kernel
theorem d_M_part_32 : decode prog_8_method_39_code 32 = .ok (.iconst (-1), 1) := by decide +kernel
theorem d_M_part_33 : decode prog_8_method_39_code 33 = .ok (.ireturn, 1) := by decide +kernel
theorem d_M_isPart_0 : decode prog_8_method_38_code 0 = .ok (.aload_n 0, 1) := by decide +kernel
theorem d_M_isPart_1 : decode prog_8_method_38_code 1 = .ok (.iload_n 1, 1) := by decide +kernel
theorem d_M_isPart_2 : decode prog_8_method_38_code 2 = .ok (.invokevirtual 151, 3) := by decide +kernel
theorem d_M_isPart_5 : decode prog_8_method_38_code 5 = .ok (.ifCond .eq 21, 3) := by decide +kernel
theorem d_M_isPart_8 : decode prog_8_method_38_code 8 = .ok (.iload_n 2, 1) := by decide +kernel
theorem d_M_isPart_9 : decode prog_8_method_38_code 9 = .ok (.ifCond .lt 17, 3) := by decide +kernel
theorem d_M_isPart_12 : decode prog_8_method_38_code 12 = .ok (.iload_n 2, 1) := by decide +kernel
theorem d_M_isPart_13 : decode prog_8_method_38_code 13 = .ok (.aload_n 0, 1) := by decide +kernel
theorem d_M_isPart_14 : decode prog_8_method_38_code 14 = .ok (.getfield 21, 3) := by decide +kernel
theorem d_M_isPart_17 : decode prog_8_method_38_code 17 = .ok (.iload_n 1, 1) := by decide +kernel
theorem d_M_isPart_18 : decode prog_8_method_38_code 18 = .ok (.iaload, 1) := by decide +kernel
theorem d_M_isPart_19 : decode prog_8_method_38_code 19 = .ok (.if_icmp .ge 7, 3) := by decide +kernel
theorem d_M_isPart_22 : decode prog_8_method_38_code 22 = .ok (.iconst 1, 1) := by decide +kernel
theorem d_M_isPart_23 : decode prog_8_method_38_code 23 = .ok (.goto 4, 3) := by decide +kernel
theorem d_M_isPart_26 : decode prog_8_method_38_code 26 = .ok (.iconst 0, 1) := by decide +kernel
theorem d_M_isPart_27 : decode prog_8_method_38_code 27 = .ok (.ireturn, 1) := by decide +kernel
theorem d_M_partSet_0 : decode prog_8_method_40_code 0 = .ok (.aload_n 0, 1) := by decide +kernel
theorem d_M_partSet_1 : decode prog_8_method_40_code 1 = .ok (.iconst 0, 1) := by decide +kernel
theorem d_M_partSet_2 : decode prog_8_method_40_code 2 = .ok (.putfield 61, 3) := by decide +kernel
theorem d_M_partSet_5 : decode prog_8_method_40_code 5 = .ok (.aload_n 0, 1) := by decide +kernel
theorem d_M_partSet_6 : decode prog_8_method_40_code 6 = .ok (.iload_n 1, 1) := by decide +kernel
theorem d_M_partSet_7 : decode prog_8_method_40_code 7 = .ok (.iload_n 2, 1) := by decide +kernel
theorem d_M_partSet_8 : decode prog_8_method_40_code 8 = .ok (.invokevirtual 157, 3) := by decide +kernel
theorem d_M_partSet_11 : decode prog_8_method_40_code 11 = .ok (.ifCond .eq 20, 3) := by decide +kernel
theorem d_M_partSet_14 : decode prog_8_method_40_code 14 = .ok (.aload_n 0, 1) := by decide +kernel
theorem d_M_partSet_15 : decode prog_8_method_40_code 15 = .ok (.sipush 600, 3) := by decide +kernel
theorem d_M_partSet_18 : decode prog_8_method_40_code 18 = .ok (.bipush 16, 2) := by decide +kernel
theorem d_M_partSet_20 : decode prog_8_method_40_code 20 = .ok (.iload_n 1, 1) := by decide +kernel
theorem d_M_partSet_21 : decode prog_8_method_40_code 21 = .ok (.imul, 1) := by decide +kernel
theorem d_M_partSet_22 : decode prog_8_method_40_code 22 = .ok (.iadd, 1) := by decide +kernel
theorem d_M_partSet_23 : decode prog_8_method_40_code 23 = .ok (.iload_n 2, 1) := by decide +kernel
theorem d_M_partSet_24 : decode prog_8_method_40_code 24 = .ok (.iadd, 1) := by decide +kernel
theorem d_M_partSet_25 : decode prog_8_method_40_code 25 = .ok (.invokevirtual 114, 3) := by decide +kernel
theorem d_M_partSet_28 : decode prog_8_method_40_code 28 = .ok (.goto 4, 3) := by decide +kernel
theorem d_M_partSet_31 : decode prog_8_method_40_code 31 = .ok (.lconst 0, 1) := by decide +kernel
theorem d_M_partSet_32 : decode prog_8_method_40_code 32 = .ok (.lreturn, 1) := by decide +kernel
theorem d_M_choose_0 : decode prog_8_method_41_code 0 = .ok (.aload_n 0, 1) := by decide +kernel
theorem d_M_choose_1 : decode prog_8_method_41_code 1 = .ok (.iconst 0, 1) := by decide +kernel
theorem d_M_choose_2 : decode prog_8_method_41_code 2 = .ok (.putfield 61, 3) := by decide +kernel
theorem d_M_choose_5 : decode prog_8_method_41_code 5 = .ok (.aload_n 0, 1) := by decide +kernel
theorem d_M_choose_6 : decode prog_8_method_41_code 6 = .ok (.iload_n 1, 1) := by decide +kernel
theorem d_M_choose_7 : decode prog_8_method_41_code 7 = .ok (.invokevirtual 100, 3) := by decide +kernel
theorem d_M_choose_10 : decode prog_8_method_41_code 10 = .ok (.ifCond .ne 5, 3) := by decide +kernel
theorem d_M_choose_13 : decode prog_8_method_41_code 13 = .ok (.iconst 0, 1) := by decide +kernel
theorem d_M_choose_14 : decode prog_8_method_41_code 14 = .ok (.ireturn, 1) := by decide +kernel
theorem d_M_choose_15 : decode prog_8_method_41_code 15 = .ok (.aload_n 0, 1) := by decide +kernel
theorem d_M_choose_16 : decode prog_8_method_41_code 16 = .ok (.sipush 5400, 3) := by decide +kernel
theorem d_M_choose_19 : decode prog_8_method_41_code 19 = .ok (.aload_n 0, 1) := by decide +kernel
theorem d_M_choose_20 : decode prog_8_method_41_code 20 = .ok (.getfield 13, 3) := by decide +kernel
theorem d_M_choose_23 : decode prog_8_method_41_code 23 = .ok (.iload_n 1, 1) := by decide +kernel
theorem d_M_choose_24 : decode prog_8_method_41_code 24 = .ok (.iaload, 1) := by decide +kernel
theorem d_M_choose_25 : decode prog_8_method_41_code 25 = .ok (.iadd, 1) := by decide +kernel
theorem d_M_choose_26 : decode prog_8_method_41_code 26 = .ok (.sipush 5400, 3) := by decide +kernel
theorem d_M_choose_29 : decode prog_8_method_41_code 29 = .ok (.aload_n 0, 1) := by decide +kernel
theorem d_M_choose_30 : decode prog_8_method_41_code 30 = .ok (.getfield 13, 3) := by decide +kernel
theorem d_M_choose_33 : decode prog_8_method_41_code 33 = .ok (.iload_n 1, 1) := by decide +kernel
theorem d_M_choose_34 : decode prog_8_method_41_code 34 = .ok (.iaload, 1) := by decide +kernel
theorem d_M_choose_35 : decode prog_8_method_41_code 35 = .ok (.iadd, 1) := by decide +kernel
theorem d_M_choose_36 : decode prog_8_method_41_code 36 = .ok (.iload_n 1, 1) := by decide +kernel
theorem d_M_choose_37 : decode prog_8_method_41_code 37 = .ok (.iconst 0, 1) := by decide +kernel
theorem d_M_choose_38 : decode prog_8_method_41_code 38 = .ok (.invokevirtual 103, 3) := by decide +kernel
theorem d_M_choose_41 : decode prog_8_method_41_code 41 = .ok (.iconst 1, 1) := by decide +kernel
theorem d_M_choose_42 : decode prog_8_method_41_code 42 = .ok (.ireturn, 1) := by decide +kernel
theorem d_M_forget_0 : decode prog_8_method_42_code 0 = .ok (.aload_n 0, 1) := by decide +kernel
theorem d_M_forget_1 : decode prog_8_method_42_code 1 = .ok (.iconst 0, 1) := by decide +kernel
theorem d_M_forget_2 : decode prog_8_method_42_code 2 = .ok (.putfield 61, 3) := by decide +kernel
theorem d_M_forget_5 : decode prog_8_method_42_code 5 = .ok (.iconst 0, 1) := by decide +kernel
theorem d_M_forget_6 : decode prog_8_method_42_code 6 = .ok (.istore_n 1, 1) := by decide +kernel
theorem d_M_forget_7 : decode prog_8_method_42_code 7 = .ok (.iload_n 1, 1) := by decide +kernel
theorem d_M_forget_8 : decode prog_8_method_42_code 8 = .ok (.aload_n 0, 1) := by decide +kernel
theorem d_M_forget_9 : decode prog_8_method_42_code 9 = .ok (.getfield 65, 3) := by decide +kernel
theorem d_M_forget_12 : decode prog_8_method_42_code 12 = .ok (.if_icmp .ge 18, 3) := by decide +kernel
theorem d_M_forget_15 : decode prog_8_method_42_code 15 = .ok (.aload_n 0, 1) := by decide +kernel
theorem d_M_forget_16 : decode prog_8_method_42_code 16 = .ok (.sipush 5400, 3) := by decide +kernel
theorem d_M_forget_19 : decode prog_8_method_42_code 19 = .ok (.iload_n 1, 1) := by decide +kernel
theorem d_M_forget_20 : decode prog_8_method_42_code 20 = .ok (.iadd, 1) := by decide +kernel
theorem d_M_forget_21 : decode prog_8_method_42_code 21 = .ok (.invokevirtual 74, 3) := by decide +kernel
theorem d_M_forget_24 : decode prog_8_method_42_code 24 = .ok (.iinc 1 1, 3) := by decide +kernel
theorem d_M_forget_27 : decode prog_8_method_42_code 27 = .ok (.goto (-20), 3) := by decide +kernel
theorem d_M_forget_30 : decode prog_8_method_42_code 30 = .ok (.return_, 1) := by decide +kernel
theorem d_M_state_0 : decode prog_8_method_47_code 0 = .ok (.aload_n 0, 1) := by decide +kernel
theorem d_M_state_1 : decode prog_8_method_47_code 1 = .ok (.iconst 0, 1) := by decide +kernel
theorem d_M_state_2 : decode prog_8_method_47_code 2 = .ok (.putfield 61, 3) := by decide +kernel
theorem d_M_state_5 : decode prog_8_method_47_code 5 = .ok (.aload_n 0, 1) := by decide +kernel
theorem d_M_state_6 : decode prog_8_method_47_code 6 = .ok (.iload_n 1, 1) := by decide +kernel
theorem d_M_state_7 : decode prog_8_method_47_code 7 = .ok (.invokevirtual 151, 3) := by decide +kernel
theorem d_M_state_10 : decode prog_8_method_47_code 10 = .ok (.ifCond .eq 11, 3) := by decide +kernel
theorem d_M_state_13 : decode prog_8_method_47_code 13 = .ok (.aload_n 0, 1) := by decide +kernel
theorem d_M_state_14 : decode prog_8_method_47_code 14 = .ok (.iload_n 1, 1) := by decide +kernel
theorem d_M_state_15 : decode prog_8_method_47_code 15 = .ok (.invokevirtual 167, 3) := by decide +kernel
theorem d_M_state_18 : decode prog_8_method_47_code 18 = .ok (.goto 5, 3) := by decide +kernel
theorem d_M_state_21 : decode prog_8_method_47_code 21 = .ok (.bipush (-2), 2) := by decide +kernel
theorem d_M_state_23 : decode prog_8_method_47_code 23 = .ok (.ireturn, 1) := by decide +kernel
theorem d_M_look_0 : decode prog_8_method_45_code 0 = .ok (.aload_n 0, 1) := by decide +kernel
theorem d_M_look_1 : decode prog_8_method_45_code 1 = .ok (.iload_n 1, 1) := by decide +kernel
theorem d_M_look_2 : decode prog_8_method_45_code 2 = .ok (.iconst (-1), 1) := by decide +kernel
theorem d_M_look_3 : decode prog_8_method_45_code 3 = .ok (.invokevirtual 164, 3) := by decide +kernel
theorem d_M_look_6 : decode prog_8_method_45_code 6 = .ok (.ifCond .le 5, 3) := by decide +kernel
theorem d_M_look_9 : decode prog_8_method_45_code 9 = .ok (.iconst (-1), 1) := by decide +kernel
theorem d_M_look_10 : decode prog_8_method_45_code 10 = .ok (.ireturn, 1) := by decide +kernel
theorem d_M_look_11 : decode prog_8_method_45_code 11 = .ok (.aload_n 0, 1) := by decide +kernel
theorem d_M_look_12 : decode prog_8_method_45_code 12 = .ok (.iload_n 1, 1) := by decide +kernel
theorem d_M_look_13 : decode prog_8_method_45_code 13 = .ok (.iconst 0, 1) := by decide +kernel
theorem d_M_look_14 : decode prog_8_method_45_code 14 = .ok (.invokevirtual 164, 3) := by decide +kernel
theorem d_M_look_17 : decode prog_8_method_45_code 17 = .ok (.istore_n 2, 1) := by decide +kernel
theorem d_M_look_18 : decode prog_8_method_45_code 18 = .ok (.iload_n 2, 1) := by decide +kernel
theorem d_M_look_19 : decode prog_8_method_45_code 19 = .ok (.ifCond .ne 7, 3) := by decide +kernel
theorem d_M_look_22 : decode prog_8_method_45_code 22 = .ok (.iconst 1, 1) := by decide +kernel
theorem d_M_look_23 : decode prog_8_method_45_code 23 = .ok (.goto 13, 3) := by decide +kernel
theorem d_M_look_26 : decode prog_8_method_45_code 26 = .ok (.iload_n 2, 1) := by decide +kernel
theorem d_M_look_27 : decode prog_8_method_45_code 27 = .ok (.iconst 1, 1) := by decide +kernel
theorem d_M_look_28 : decode prog_8_method_45_code 28 = .ok (.if_icmp .ne 7, 3) := by decide +kernel
theorem d_M_look_31 : decode prog_8_method_45_code 31 = .ok (.iconst 2, 1) := by decide +kernel
theorem d_M_look_32 : decode prog_8_method_45_code 32 = .ok (.goto 4, 3) := by decide +kernel
theorem d_M_look_35 : decode prog_8_method_45_code 35 = .ok (.iconst 0, 1) := by decide +kernel
theorem d_M_look_36 : decode prog_8_method_45_code 36 = .ok (.ireturn, 1) := by decide +kernel
theorem d_M_counted_0 : decode prog_8_method_44_code 0 = .ok (.iconst 0, 1) := by decide +kernel
theorem d_M_counted_1 : decode prog_8_method_44_code 1 = .ok (.istore_n 3, 1) := by decide +kernel
theorem d_M_counted_2 : decode prog_8_method_44_code 2 = .ok (.iconst 0, 1) := by decide +kernel
theorem d_M_counted_3 : decode prog_8_method_44_code 3 = .ok (.istore 4, 2) := by decide +kernel
theorem d_M_counted_5 : decode prog_8_method_44_code 5 = .ok (.iload 4, 2) := by decide +kernel
theorem d_M_counted_7 : decode prog_8_method_44_code 7 = .ok (.aload_n 0, 1) := by decide +kernel
theorem d_M_counted_8 : decode prog_8_method_44_code 8 = .ok (.getfield 21, 3) := by decide +kernel
theorem d_M_counted_11 : decode prog_8_method_44_code 11 = .ok (.iload_n 1, 1) := by decide +kernel
theorem d_M_counted_12 : decode prog_8_method_44_code 12 = .ok (.iaload, 1) := by decide +kernel
theorem d_M_counted_13 : decode prog_8_method_44_code 13 = .ok (.if_icmp .ge 36, 3) := by decide +kernel
theorem d_M_counted_16 : decode prog_8_method_44_code 16 = .ok (.iload_n 3, 1) := by decide +kernel
theorem d_M_counted_17 : decode prog_8_method_44_code 17 = .ok (.aload_n 0, 1) := by decide +kernel
theorem d_M_counted_18 : decode prog_8_method_44_code 18 = .ok (.sipush 600, 3) := by decide +kernel
theorem d_M_counted_21 : decode prog_8_method_44_code 21 = .ok (.bipush 16, 2) := by decide +kernel
theorem d_M_counted_23 : decode prog_8_method_44_code 23 = .ok (.iload_n 1, 1) := by decide +kernel
theorem d_M_counted_24 : decode prog_8_method_44_code 24 = .ok (.imul, 1) := by decide +kernel
theorem d_M_counted_25 : decode prog_8_method_44_code 25 = .ok (.iadd, 1) := by decide +kernel
theorem d_M_counted_26 : decode prog_8_method_44_code 26 = .ok (.iload 4, 2) := by decide +kernel
theorem d_M_counted_28 : decode prog_8_method_44_code 28 = .ok (.iadd, 1) := by decide +kernel
theorem d_M_counted_29 : decode prog_8_method_44_code 29 = .ok (.invokevirtual 160, 3) := by decide +kernel
theorem d_M_counted_32 : decode prog_8_method_44_code 32 = .ok (.iload_n 2, 1) := by decide +kernel
theorem d_M_counted_33 : decode prog_8_method_44_code 33 = .ok (.if_icmp .ne 7, 3) := by decide +kernel
theorem d_M_counted_36 : decode prog_8_method_44_code 36 = .ok (.iconst 1, 1) := by decide +kernel
theorem d_M_counted_37 : decode prog_8_method_44_code 37 = .ok (.goto 4, 3) := by decide +kernel
theorem d_M_counted_40 : decode prog_8_method_44_code 40 = .ok (.iconst 0, 1) := by decide +kernel
theorem d_M_counted_41 : decode prog_8_method_44_code 41 = .ok (.iadd, 1) := by decide +kernel
theorem d_M_counted_42 : decode prog_8_method_44_code 42 = .ok (.istore_n 3, 1) := by decide +kernel
theorem d_M_counted_43 : decode prog_8_method_44_code 43 = .ok (.iinc 4 1, 3) := by decide +kernel
theorem d_M_counted_46 : decode prog_8_method_44_code 46 = .ok (.goto (-41), 3) := by decide +kernel
theorem d_M_counted_49 : decode prog_8_method_44_code 49 = .ok (.iload_n 3, 1) := by decide +kernel
theorem d_M_counted_50 : decode prog_8_method_44_code 50 = .ok (.ireturn, 1) := by decide +kernel
theorem d_M_stateOf_0 : decode prog_8_method_43_code 0 = .ok (.aload_n 0, 1) := by decide +kernel
theorem d_M_stateOf_1 : decode prog_8_method_43_code 1 = .ok (.sipush 5400, 3) := by decide +kernel
theorem d_M_stateOf_4 : decode prog_8_method_43_code 4 = .ok (.aload_n 0, 1) := by decide +kernel
theorem d_M_stateOf_5 : decode prog_8_method_43_code 5 = .ok (.getfield 13, 3) := by decide +kernel
theorem d_M_stateOf_8 : decode prog_8_method_43_code 8 = .ok (.iload_n 1, 1) := by decide +kernel
theorem d_M_stateOf_9 : decode prog_8_method_43_code 9 = .ok (.iaload, 1) := by decide +kernel
theorem d_M_stateOf_10 : decode prog_8_method_43_code 10 = .ok (.iadd, 1) := by decide +kernel
theorem d_M_stateOf_11 : decode prog_8_method_43_code 11 = .ok (.iload_n 1, 1) := by decide +kernel
theorem d_M_stateOf_12 : decode prog_8_method_43_code 12 = .ok (.invokevirtual 107, 3) := by decide +kernel
theorem d_M_stateOf_15 : decode prog_8_method_43_code 15 = .ok (.ireturn, 1) := by decide +kernel
theorem d_M_forced_0 : decode prog_8_method_48_code 0 = .ok (.aload_n 0, 1) := by decide +kernel
theorem d_M_forced_1 : decode prog_8_method_48_code 1 = .ok (.iconst 0, 1) := by decide +kernel
theorem d_M_forced_2 : decode prog_8_method_48_code 2 = .ok (.putfield 61, 3) := by decide +kernel
theorem d_M_forced_5 : decode prog_8_method_48_code 5 = .ok (.aload_n 0, 1) := by decide +kernel
theorem d_M_forced_6 : decode prog_8_method_48_code 6 = .ok (.iload_n 1, 1) := by decide +kernel
theorem d_M_forced_7 : decode prog_8_method_48_code 7 = .ok (.invokevirtual 151, 3) := by decide +kernel
theorem d_M_forced_10 : decode prog_8_method_48_code 10 = .ok (.ifCond .eq 20, 3) := by decide +kernel
theorem d_M_forced_13 : decode prog_8_method_48_code 13 = .ok (.aload_n 0, 1) := by decide +kernel
theorem d_M_forced_14 : decode prog_8_method_48_code 14 = .ok (.iload_n 1, 1) := by decide +kernel
theorem d_M_forced_15 : decode prog_8_method_48_code 15 = .ok (.invokevirtual 167, 3) := by decide +kernel
theorem d_M_forced_18 : decode prog_8_method_48_code 18 = .ok (.iconst 2, 1) := by decide +kernel
theorem d_M_forced_19 : decode prog_8_method_48_code 19 = .ok (.if_icmp .ne 11, 3) := by decide +kernel
theorem d_M_forced_22 : decode prog_8_method_48_code 22 = .ok (.aload_n 0, 1) := by decide +kernel
theorem d_M_forced_23 : decode prog_8_method_48_code 23 = .ok (.iload_n 1, 1) := by decide +kernel
theorem d_M_forced_24 : decode prog_8_method_48_code 24 = .ok (.invokevirtual 170, 3) := by decide +kernel
theorem d_M_forced_27 : decode prog_8_method_48_code 27 = .ok (.goto 4, 3) := by decide +kernel
theorem d_M_forced_30 : decode prog_8_method_48_code 30 = .ok (.iconst (-1), 1) := by decide +kernel
theorem d_M_forced_31 : decode prog_8_method_48_code 31 = .ok (.ireturn, 1) := by decide +kernel
theorem d_M_openPart_0 : decode prog_8_method_46_code 0 = .ok (.iconst (-1), 1) := by decide +kernel
theorem d_M_openPart_1 : decode prog_8_method_46_code 1 = .ok (.istore_n 2, 1) := by decide +kernel
theorem d_M_openPart_2 : decode prog_8_method_46_code 2 = .ok (.iconst 0, 1) := by decide +kernel
theorem d_M_openPart_3 : decode prog_8_method_46_code 3 = .ok (.istore_n 3, 1) := by decide +kernel
theorem d_M_openPart_4 : decode prog_8_method_46_code 4 = .ok (.iload_n 3, 1) := by decide +kernel
theorem d_M_openPart_5 : decode prog_8_method_46_code 5 = .ok (.aload_n 0, 1) := by decide +kernel
theorem d_M_openPart_6 : decode prog_8_method_46_code 6 = .ok (.getfield 21, 3) := by decide +kernel
theorem d_M_openPart_9 : decode prog_8_method_46_code 9 = .ok (.iload_n 1, 1) := by decide +kernel
theorem d_M_openPart_10 : decode prog_8_method_46_code 10 = .ok (.iaload, 1) := by decide +kernel
theorem d_M_openPart_11 : decode prog_8_method_46_code 11 = .ok (.if_icmp .ge 32, 3) := by decide +kernel
theorem d_M_openPart_14 : decode prog_8_method_46_code 14 = .ok (.aload_n 0, 1) := by decide +kernel
theorem d_M_openPart_15 : decode prog_8_method_46_code 15 = .ok (.sipush 600, 3) := by decide +kernel
theorem d_M_openPart_18 : decode prog_8_method_46_code 18 = .ok (.bipush 16, 2) := by decide +kernel
theorem d_M_openPart_20 : decode prog_8_method_46_code 20 = .ok (.iload_n 1, 1) := by decide +kernel
theorem d_M_openPart_21 : decode prog_8_method_46_code 21 = .ok (.imul, 1) := by decide +kernel
theorem d_M_openPart_22 : decode prog_8_method_46_code 22 = .ok (.iadd, 1) := by decide +kernel
theorem d_M_openPart_23 : decode prog_8_method_46_code 23 = .ok (.iload_n 3, 1) := by decide +kernel
theorem d_M_openPart_24 : decode prog_8_method_46_code 24 = .ok (.iadd, 1) := by decide +kernel
theorem d_M_openPart_25 : decode prog_8_method_46_code 25 = .ok (.invokevirtual 160, 3) := by decide +kernel
theorem d_M_openPart_28 : decode prog_8_method_46_code 28 = .ok (.ifCond .ne 7, 3) := by decide +kernel
theorem d_M_openPart_31 : decode prog_8_method_46_code 31 = .ok (.iload_n 3, 1) := by decide +kernel
theorem d_M_openPart_32 : decode prog_8_method_46_code 32 = .ok (.goto 4, 3) := by decide +kernel
theorem d_M_openPart_35 : decode prog_8_method_46_code 35 = .ok (.iload_n 2, 1) := by decide +kernel
theorem d_M_openPart_36 : decode prog_8_method_46_code 36 = .ok (.istore_n 2, 1) := by decide +kernel
theorem d_M_openPart_37 : decode prog_8_method_46_code 37 = .ok (.iinc 3 1, 3) := by decide +kernel
theorem d_M_openPart_40 : decode prog_8_method_46_code 40 = .ok (.goto (-36), 3) := by decide +kernel
theorem d_M_openPart_43 : decode prog_8_method_46_code 43 = .ok (.iload_n 2, 1) := by decide +kernel
theorem d_M_openPart_44 : decode prog_8_method_46_code 44 = .ok (.ireturn, 1) := by decide +kernel
theorem d_M_spread_0 : decode prog_8_method_50_code 0 = .ok (.aload_n 0, 1) := by decide +kernel
theorem d_M_spread_1 : decode prog_8_method_50_code 1 = .ok (.iconst 0, 1) := by decide +kernel
theorem d_M_spread_2 : decode prog_8_method_50_code 2 = .ok (.putfield 61, 3) := by decide +kernel
theorem d_M_spread_5 : decode prog_8_method_50_code 5 = .ok (.iconst 1, 1) := by decide +kernel
theorem d_M_spread_6 : decode prog_8_method_50_code 6 = .ok (.istore_n 1, 1) := by decide +kernel
theorem d_M_spread_7 : decode prog_8_method_50_code 7 = .ok (.iload_n 1, 1) := by decide +kernel
theorem d_M_spread_8 : decode prog_8_method_50_code 8 = .ok (.ifCond .eq 130, 3) := by decide +kernel
theorem d_M_spread_11 : decode prog_8_method_50_code 11 = .ok (.iconst 0, 1) := by decide +kernel
theorem d_M_spread_12 : decode prog_8_method_50_code 12 = .ok (.istore_n 1, 1) := by decide +kernel
theorem d_M_spread_13 : decode prog_8_method_50_code 13 = .ok (.iconst 0, 1) := by decide +kernel
theorem d_M_spread_14 : decode prog_8_method_50_code 14 = .ok (.istore_n 2, 1) := by decide +kernel
theorem d_M_spread_15 : decode prog_8_method_50_code 15 = .ok (.iload_n 2, 1) := by decide +kernel
theorem d_M_spread_16 : decode prog_8_method_50_code 16 = .ok (.aload_n 0, 1) := by decide +kernel
theorem d_M_spread_17 : decode prog_8_method_50_code 17 = .ok (.getfield 71, 3) := by decide +kernel
theorem d_M_spread_20 : decode prog_8_method_50_code 20 = .ok (.if_icmp .ge 115, 3) := by decide +kernel
theorem d_M_spread_23 : decode prog_8_method_50_code 23 = .ok (.aload_n 0, 1) := by decide +kernel
theorem d_M_spread_24 : decode prog_8_method_50_code 24 = .ok (.iload_n 2, 1) := by decide +kernel
theorem d_M_spread_25 : decode prog_8_method_50_code 25 = .ok (.invokevirtual 167, 3) := by decide +kernel
theorem d_M_spread_28 : decode prog_8_method_50_code 28 = .ok (.istore_n 3, 1) := by decide +kernel
theorem d_M_spread_29 : decode prog_8_method_50_code 29 = .ok (.iload_n 3, 1) := by decide +kernel
theorem d_M_spread_30 : decode prog_8_method_50_code 30 = .ok (.iconst 1, 1) := by decide +kernel
theorem d_M_spread_31 : decode prog_8_method_50_code 31 = .ok (.if_icmp .ne 8, 3) := by decide +kernel
theorem d_M_spread_34 : decode prog_8_method_50_code 34 = .ok (.aload_n 0, 1) := by decide +kernel
theorem d_M_spread_35 : decode prog_8_method_50_code 35 = .ok (.invokevirtual 173, 3) := by decide +kernel
theorem d_M_spread_38 : decode prog_8_method_50_code 38 = .ok (.ireturn, 1) := by decide +kernel
theorem d_M_spread_39 : decode prog_8_method_50_code 39 = .ok (.iload_n 3, 1) := by decide +kernel
theorem d_M_spread_40 : decode prog_8_method_50_code 40 = .ok (.iconst 2, 1) := by decide +kernel
theorem d_M_spread_41 : decode prog_8_method_50_code 41 = .ok (.if_icmp .eq 6, 3) := by decide +kernel
theorem d_M_spread_44 : decode prog_8_method_50_code 44 = .ok (.goto 85, 3) := by decide +kernel
theorem d_M_spread_47 : decode prog_8_method_50_code 47 = .ok (.sipush 600, 3) := by decide +kernel
theorem d_M_spread_50 : decode prog_8_method_50_code 50 = .ok (.bipush 16, 2) := by decide +kernel
theorem d_M_spread_52 : decode prog_8_method_50_code 52 = .ok (.iload_n 2, 1) := by decide +kernel
theorem d_M_spread_53 : decode prog_8_method_50_code 53 = .ok (.imul, 1) := by decide +kernel
theorem d_M_spread_54 : decode prog_8_method_50_code 54 = .ok (.iadd, 1) := by decide +kernel
theorem d_M_spread_55 : decode prog_8_method_50_code 55 = .ok (.aload_n 0, 1) := by decide +kernel
theorem d_M_spread_56 : decode prog_8_method_50_code 56 = .ok (.iload_n 2, 1) := by decide +kernel
theorem d_M_spread_57 : decode prog_8_method_50_code 57 = .ok (.invokevirtual 170, 3) := by decide +kernel
theorem d_M_spread_60 : decode prog_8_method_50_code 60 = .ok (.iadd, 1) := by decide +kernel
theorem d_M_spread_61 : decode prog_8_method_50_code 61 = .ok (.istore 4, 2) := by decide +kernel
theorem d_M_spread_63 : decode prog_8_method_50_code 63 = .ok (.sipush 5400, 3) := by decide +kernel
theorem d_M_spread_66 : decode prog_8_method_50_code 66 = .ok (.aload_n 0, 1) := by decide +kernel
theorem d_M_spread_67 : decode prog_8_method_50_code 67 = .ok (.getfield 13, 3) := by decide +kernel
theorem d_M_spread_70 : decode prog_8_method_50_code 70 = .ok (.iload 4, 2) := by decide +kernel
theorem d_M_spread_72 : decode prog_8_method_50_code 72 = .ok (.iaload, 1) := by decide +kernel
theorem d_M_spread_73 : decode prog_8_method_50_code 73 = .ok (.iadd, 1) := by decide +kernel
theorem d_M_spread_74 : decode prog_8_method_50_code 74 = .ok (.istore 5, 2) := by decide +kernel
theorem d_M_spread_76 : decode prog_8_method_50_code 76 = .ok (.iconst (-1), 1) := by decide +kernel
theorem d_M_spread_77 : decode prog_8_method_50_code 77 = .ok (.istore 6, 2) := by decide +kernel
theorem d_M_spread_79 : decode prog_8_method_50_code 79 = .ok (.iload 6, 2) := by decide +kernel
theorem d_M_spread_81 : decode prog_8_method_50_code 81 = .ok (.bipush 48, 2) := by decide +kernel
theorem d_M_spread_83 : decode prog_8_method_50_code 83 = .ok (.if_icmp .ge 44, 3) := by decide +kernel
theorem d_M_spread_86 : decode prog_8_method_50_code 86 = .ok (.aload_n 0, 1) := by decide +kernel
theorem d_M_spread_87 : decode prog_8_method_50_code 87 = .ok (.iload 5, 2) := by decide +kernel
theorem d_M_spread_89 : decode prog_8_method_50_code 89 = .ok (.iload 6, 2) := by decide +kernel
theorem d_M_spread_91 : decode prog_8_method_50_code 91 = .ok (.aload_n 0, 1) := by decide +kernel
theorem d_M_spread_92 : decode prog_8_method_50_code 92 = .ok (.iload 5, 2) := by decide +kernel
theorem d_M_spread_94 : decode prog_8_method_50_code 94 = .ok (.iload 6, 2) := by decide +kernel
theorem d_M_spread_96 : decode prog_8_method_50_code 96 = .ok (.invokevirtual 82, 3) := by decide +kernel
theorem d_M_spread_99 : decode prog_8_method_50_code 99 = .ok (.ifCond .eq 18, 3) := by decide +kernel
theorem d_M_spread_102 : decode prog_8_method_50_code 102 = .ok (.aload_n 0, 1) := by decide +kernel
theorem d_M_spread_103 : decode prog_8_method_50_code 103 = .ok (.iload 4, 2) := by decide +kernel
theorem d_M_spread_105 : decode prog_8_method_50_code 105 = .ok (.iload 6, 2) := by decide +kernel
theorem d_M_spread_107 : decode prog_8_method_50_code 107 = .ok (.invokevirtual 82, 3) := by decide +kernel
theorem d_M_spread_110 : decode prog_8_method_50_code 110 = .ok (.ifCond .ne 7, 3) := by decide +kernel
theorem d_M_spread_113 : decode prog_8_method_50_code 113 = .ok (.iconst 1, 1) := by decide +kernel
theorem d_M_spread_114 : decode prog_8_method_50_code 114 = .ok (.goto 4, 3) := by decide +kernel
theorem d_M_spread_117 : decode prog_8_method_50_code 117 = .ok (.iconst 0, 1) := by decide +kernel
theorem d_M_spread_118 : decode prog_8_method_50_code 118 = .ok (.invokevirtual 78, 3) := by decide +kernel
theorem d_M_spread_121 : decode prog_8_method_50_code 121 = .ok (.iinc 6 1, 3) := by decide +kernel
theorem d_M_spread_124 : decode prog_8_method_50_code 124 = .ok (.goto (-45), 3) := by decide +kernel
theorem d_M_spread_127 : decode prog_8_method_50_code 127 = .ok (.iconst 1, 1) := by decide +kernel
theorem d_M_spread_128 : decode prog_8_method_50_code 128 = .ok (.istore_n 1, 1) := by decide +kernel
theorem d_M_spread_129 : decode prog_8_method_50_code 129 = .ok (.iinc 2 1, 3) := by decide +kernel
theorem d_M_spread_132 : decode prog_8_method_50_code 132 = .ok (.goto (-117), 3) := by decide +kernel
theorem d_M_spread_135 : decode prog_8_method_50_code 135 = .ok (.goto (-128), 3) := by decide +kernel
theorem d_M_spread_138 : decode prog_8_method_50_code 138 = .ok (.iconst (-1), 1) := by decide +kernel
theorem d_M_spread_139 : decode prog_8_method_50_code 139 = .ok (.ireturn, 1) := by decide +kernel
theorem d_M_firstKept_0 : decode prog_8_method_49_code 0 = .ok (.iconst 0, 1) := by decide +kernel
theorem d_M_firstKept_1 : decode prog_8_method_49_code 1 = .ok (.istore_n 1, 1) := by decide +kernel
theorem d_M_firstKept_2 : decode prog_8_method_49_code 2 = .ok (.iload_n 1, 1) := by decide +kernel
theorem d_M_firstKept_3 : decode prog_8_method_49_code 3 = .ok (.aload_n 0, 1) := by decide +kernel
theorem d_M_firstKept_4 : decode prog_8_method_49_code 4 = .ok (.getfield 71, 3) := by decide +kernel
theorem d_M_firstKept_7 : decode prog_8_method_49_code 7 = .ok (.if_icmp .ge 20, 3) := by decide +kernel
theorem d_M_firstKept_10 : decode prog_8_method_49_code 10 = .ok (.aload_n 0, 1) := by decide +kernel
theorem d_M_firstKept_11 : decode prog_8_method_49_code 11 = .ok (.iload_n 1, 1) := by decide +kernel
theorem d_M_firstKept_12 : decode prog_8_method_49_code 12 = .ok (.invokevirtual 167, 3) := by decide +kernel
theorem d_M_firstKept_15 : decode prog_8_method_49_code 15 = .ok (.iconst 1, 1) := by decide +kernel
theorem d_M_firstKept_16 : decode prog_8_method_49_code 16 = .ok (.if_icmp .ne 5, 3) := by decide +kernel
theorem d_M_firstKept_19 : decode prog_8_method_49_code 19 = .ok (.iload_n 1, 1) := by decide +kernel
theorem d_M_firstKept_20 : decode prog_8_method_49_code 20 = .ok (.ireturn, 1) := by decide +kernel
theorem d_M_firstKept_21 : decode prog_8_method_49_code 21 = .ok (.iinc 1 1, 3) := by decide +kernel
theorem d_M_firstKept_24 : decode prog_8_method_49_code 24 = .ok (.goto (-22), 3) := by decide +kernel
theorem d_M_firstKept_27 : decode prog_8_method_49_code 27 = .ok (.iconst (-1), 1) := by decide +kernel
theorem d_M_firstKept_28 : decode prog_8_method_49_code 28 = .ok (.ireturn, 1) := by decide +kernel
theorem d_M_chosen_0 : decode prog_8_method_51_code 0 = .ok (.aload_n 0, 1) := by decide +kernel
theorem d_M_chosen_1 : decode prog_8_method_51_code 1 = .ok (.iconst 0, 1) := by decide +kernel
theorem d_M_chosen_2 : decode prog_8_method_51_code 2 = .ok (.putfield 61, 3) := by decide +kernel
theorem d_M_chosen_5 : decode prog_8_method_51_code 5 = .ok (.aload_n 0, 1) := by decide +kernel
theorem d_M_chosen_6 : decode prog_8_method_51_code 6 = .ok (.iload_n 1, 1) := by decide +kernel
theorem d_M_chosen_7 : decode prog_8_method_51_code 7 = .ok (.invokevirtual 93, 3) := by decide +kernel
theorem d_M_chosen_10 : decode prog_8_method_51_code 10 = .ok (.ifCond .eq 16, 3) := by decide +kernel
theorem d_M_chosen_13 : decode prog_8_method_51_code 13 = .ok (.aload_n 0, 1) := by decide +kernel
theorem d_M_chosen_14 : decode prog_8_method_51_code 14 = .ok (.sipush 5400, 3) := by decide +kernel
theorem d_M_chosen_17 : decode prog_8_method_51_code 17 = .ok (.iload_n 1, 1) := by decide +kernel
theorem d_M_chosen_18 : decode prog_8_method_51_code 18 = .ok (.iadd, 1) := by decide +kernel
theorem d_M_chosen_19 : decode prog_8_method_51_code 19 = .ok (.iload_n 2, 1) := by decide +kernel
theorem d_M_chosen_20 : decode prog_8_method_51_code 20 = .ok (.invokevirtual 111, 3) := by decide +kernel
theorem d_M_chosen_23 : decode prog_8_method_51_code 23 = .ok (.goto 4, 3) := by decide +kernel
theorem d_M_chosen_26 : decode prog_8_method_51_code 26 = .ok (.iconst (-1), 1) := by decide +kernel
theorem d_M_chosen_27 : decode prog_8_method_51_code 27 = .ok (.ireturn, 1) := by decide +kernel
theorem d_M_chosenSet_0 : decode prog_8_method_52_code 0 = .ok (.aload_n 0, 1) := by decide +kernel
theorem d_M_chosenSet_1 : decode prog_8_method_52_code 1 = .ok (.iconst 0, 1) := by decide +kernel
theorem d_M_chosenSet_2 : decode prog_8_method_52_code 2 = .ok (.putfield 61, 3) := by decide +kernel
theorem d_M_chosenSet_5 : decode prog_8_method_52_code 5 = .ok (.aload_n 0, 1) := by decide +kernel
theorem d_M_chosenSet_6 : decode prog_8_method_52_code 6 = .ok (.iload_n 1, 1) := by decide +kernel
theorem d_M_chosenSet_7 : decode prog_8_method_52_code 7 = .ok (.invokevirtual 93, 3) := by decide +kernel
theorem d_M_chosenSet_10 : decode prog_8_method_52_code 10 = .ok (.ifCond .eq 15, 3) := by decide +kernel
theorem d_M_chosenSet_13 : decode prog_8_method_52_code 13 = .ok (.aload_n 0, 1) := by decide +kernel
theorem d_M_chosenSet_14 : decode prog_8_method_52_code 14 = .ok (.sipush 5400, 3) := by decide +kernel
theorem d_M_chosenSet_17 : decode prog_8_method_52_code 17 = .ok (.iload_n 1, 1) := by decide +kernel
theorem d_M_chosenSet_18 : decode prog_8_method_52_code 18 = .ok (.iadd, 1) := by decide +kernel
theorem d_M_chosenSet_19 : decode prog_8_method_52_code 19 = .ok (.invokevirtual 114, 3) := by decide +kernel
theorem d_M_chosenSet_22 : decode prog_8_method_52_code 22 = .ok (.goto 4, 3) := by decide +kernel
theorem d_M_chosenSet_25 : decode prog_8_method_52_code 25 = .ok (.lconst 0, 1) := by decide +kernel
theorem d_M_chosenSet_26 : decode prog_8_method_52_code 26 = .ok (.lreturn, 1) := by decide +kernel
theorem d_M_print_0 : decode prog_8_method_56_code 0 = .ok (.aload_n 0, 1) := by decide +kernel
theorem d_M_print_1 : decode prog_8_method_56_code 1 = .ok (.iconst 0, 1) := by decide +kernel
theorem d_M_print_2 : decode prog_8_method_56_code 2 = .ok (.putfield 61, 3) := by decide +kernel
theorem d_M_print_5 : decode prog_8_method_56_code 5 = .ok (.aload_n 0, 1) := by decide +kernel
theorem d_M_print_6 : decode prog_8_method_56_code 6 = .ok (.iload_n 1, 1) := by decide +kernel
theorem d_M_print_7 : decode prog_8_method_56_code 7 = .ok (.invokevirtual 151, 3) := by decide +kernel
theorem d_M_print_10 : decode prog_8_method_56_code 10 = .ok (.ifCond .ne 5, 3) := by decide +kernel
theorem d_M_print_13 : decode prog_8_method_56_code 13 = .ok (.iconst (-1), 1) := by decide +kernel
theorem d_M_print_14 : decode prog_8_method_56_code 14 = .ok (.ireturn, 1) := by decide +kernel
theorem d_M_print_15 : decode prog_8_method_56_code 15 = .ok (.aload_n 0, 1) := by decide +kernel
theorem d_M_print_16 : decode prog_8_method_56_code 16 = .ok (.iconst 0, 1) := by decide +kernel
theorem d_M_print_17 : decode prog_8_method_56_code 17 = .ok (.putfield 177, 3) := by decide +kernel
theorem d_M_print_20 : decode prog_8_method_56_code 20 = .ok (.iconst 0, 1) := by decide +kernel
theorem d_M_print_21 : decode prog_8_method_56_code 21 = .ok (.istore_n 2, 1) := by decide +kernel
theorem d_M_print_22 : decode prog_8_method_56_code 22 = .ok (.iload_n 2, 1) := by decide +kernel
theorem d_M_print_23 : decode prog_8_method_56_code 23 = .ok (.aload_n 0, 1) := by decide +kernel
theorem d_M_print_24 : decode prog_8_method_56_code 24 = .ok (.getfield 21, 3) := by decide +kernel
theorem d_M_print_27 : decode prog_8_method_56_code 27 = .ok (.iload_n 1, 1) := by decide +kernel
theorem d_M_print_28 : decode prog_8_method_56_code 28 = .ok (.iaload, 1) := by decide +kernel
theorem d_M_print_29 : decode prog_8_method_56_code 29 = .ok (.if_icmp .ge 39, 3) := by decide +kernel
theorem d_M_print_32 : decode prog_8_method_56_code 32 = .ok (.iload_n 2, 1) := by decide +kernel
theorem d_M_print_33 : decode prog_8_method_56_code 33 = .ok (.ifCond .le 15, 3) := by decide +kernel
theorem d_M_print_36 : decode prog_8_method_56_code 36 = .ok (.aload_n 0, 1) := by decide +kernel
theorem d_M_print_37 : decode prog_8_method_56_code 37 = .ok (.bipush 59, 2) := by decide +kernel
theorem d_M_print_39 : decode prog_8_method_56_code 39 = .ok (.invokevirtual 180, 3) := by decide +kernel
theorem d_M_print_42 : decode prog_8_method_56_code 42 = .ok (.aload_n 0, 1) := by decide +kernel
theorem d_M_print_43 : decode prog_8_method_56_code 43 = .ok (.bipush 32, 2) := by decide +kernel
theorem d_M_print_45 : decode prog_8_method_56_code 45 = .ok (.invokevirtual 180, 3) := by decide +kernel
theorem d_M_print_48 : decode prog_8_method_56_code 48 = .ok (.aload_n 0, 1) := by decide +kernel
theorem d_M_print_49 : decode prog_8_method_56_code 49 = .ok (.sipush 600, 3) := by decide +kernel
theorem d_M_print_52 : decode prog_8_method_56_code 52 = .ok (.bipush 16, 2) := by decide +kernel
theorem d_M_print_54 : decode prog_8_method_56_code 54 = .ok (.iload_n 1, 1) := by decide +kernel
theorem d_M_print_55 : decode prog_8_method_56_code 55 = .ok (.imul, 1) := by decide +kernel
theorem d_M_print_56 : decode prog_8_method_56_code 56 = .ok (.iadd, 1) := by decide +kernel
theorem d_M_print_57 : decode prog_8_method_56_code 57 = .ok (.iload_n 2, 1) := by decide +kernel
theorem d_M_print_58 : decode prog_8_method_56_code 58 = .ok (.iadd, 1) := by decide +kernel
theorem d_M_print_59 : decode prog_8_method_56_code 59 = .ok (.invokevirtual 186, 3) := by decide +kernel
theorem d_M_print_62 : decode prog_8_method_56_code 62 = .ok (.iinc 2 1, 3) := by decide +kernel
theorem d_M_print_65 : decode prog_8_method_56_code 65 = .ok (.goto (-43), 3) := by decide +kernel
theorem d_M_print_68 : decode prog_8_method_56_code 68 = .ok (.aload_n 0, 1) := by decide +kernel
theorem d_M_print_69 : decode prog_8_method_56_code 69 = .ok (.getfield 177, 3) := by decide +kernel
theorem d_M_print_72 : decode prog_8_method_56_code 72 = .ok (.ireturn, 1) := by decide +kernel
theorem d_M_put_0 : decode prog_8_method_53_code 0 = .ok (.aload_n 0, 1) := by decide +kernel
theorem d_M_put_1 : decode prog_8_method_53_code 1 = .ok (.getfield 58, 3) := by decide +kernel
theorem d_M_put_4 : decode prog_8_method_53_code 4 = .ok (.aload_n 0, 1) := by decide +kernel
theorem d_M_put_5 : decode prog_8_method_53_code 5 = .ok (.getfield 177, 3) := by decide +kernel
theorem d_M_put_8 : decode prog_8_method_53_code 8 = .ok (.iload_n 1, 1) := by decide +kernel
theorem d_M_put_9 : decode prog_8_method_53_code 9 = .ok (.iastore, 1) := by decide +kernel
theorem d_M_put_10 : decode prog_8_method_53_code 10 = .ok (.aload_n 0, 1) := by decide +kernel
theorem d_M_put_11 : decode prog_8_method_53_code 11 = .ok (.dup, 1) := by decide +kernel
theorem d_M_put_12 : decode prog_8_method_53_code 12 = .ok (.getfield 177, 3) := by decide +kernel
theorem d_M_put_15 : decode prog_8_method_53_code 15 = .ok (.iconst 1, 1) := by decide +kernel
theorem d_M_put_16 : decode prog_8_method_53_code 16 = .ok (.iadd, 1) := by decide +kernel
theorem d_M_put_17 : decode prog_8_method_53_code 17 = .ok (.putfield 177, 3) := by decide +kernel
theorem d_M_put_20 : decode prog_8_method_53_code 20 = .ok (.return_, 1) := by decide +kernel
theorem d_M_putTerm_0 : decode prog_8_method_55_code 0 = .ok (.aload_n 0, 1) := by decide +kernel
theorem d_M_putTerm_1 : decode prog_8_method_55_code 1 = .ok (.iload_n 1, 1) := by decide +kernel
theorem d_M_putTerm_2 : decode prog_8_method_55_code 2 = .ok (.invokevirtual 86, 3) := by decide +kernel
theorem d_M_putTerm_5 : decode prog_8_method_55_code 5 = .ok (.ifCond .ne 9, 3) := by decide +kernel
theorem d_M_putTerm_8 : decode prog_8_method_55_code 8 = .ok (.aload_n 0, 1) := by decide +kernel
theorem d_M_putTerm_9 : decode prog_8_method_55_code 9 = .ok (.bipush 33, 2) := by decide +kernel
theorem d_M_putTerm_11 : decode prog_8_method_55_code 11 = .ok (.invokevirtual 180, 3) := by decide +kernel
theorem d_M_putTerm_14 : decode prog_8_method_55_code 14 = .ok (.aload_n 0, 1) := by decide +kernel
theorem d_M_putTerm_15 : decode prog_8_method_55_code 15 = .ok (.bipush 97, 2) := by decide +kernel
theorem d_M_putTerm_17 : decode prog_8_method_55_code 17 = .ok (.aload_n 0, 1) := by decide +kernel
theorem d_M_putTerm_18 : decode prog_8_method_55_code 18 = .ok (.getfield 13, 3) := by decide +kernel
theorem d_M_putTerm_21 : decode prog_8_method_55_code 21 = .ok (.iload_n 1, 1) := by decide +kernel
theorem d_M_putTerm_22 : decode prog_8_method_55_code 22 = .ok (.iaload, 1) := by decide +kernel
theorem d_M_putTerm_23 : decode prog_8_method_55_code 23 = .ok (.iadd, 1) := by decide +kernel
theorem d_M_putTerm_24 : decode prog_8_method_55_code 24 = .ok (.invokevirtual 180, 3) := by decide +kernel
theorem d_M_putTerm_27 : decode prog_8_method_55_code 27 = .ok (.aload_n 0, 1) := by decide +kernel
theorem d_M_putTerm_28 : decode prog_8_method_55_code 28 = .ok (.bipush 32, 2) := by decide +kernel
theorem d_M_putTerm_30 : decode prog_8_method_55_code 30 = .ok (.invokevirtual 180, 3) := by decide +kernel
theorem d_M_putTerm_33 : decode prog_8_method_55_code 33 = .ok (.iconst 0, 1) := by decide +kernel
theorem d_M_putTerm_34 : decode prog_8_method_55_code 34 = .ok (.istore_n 2, 1) := by decide +kernel
theorem d_M_putTerm_35 : decode prog_8_method_55_code 35 = .ok (.iconst 0, 1) := by decide +kernel
theorem d_M_putTerm_36 : decode prog_8_method_55_code 36 = .ok (.istore_n 3, 1) := by decide +kernel
theorem d_M_putTerm_37 : decode prog_8_method_55_code 37 = .ok (.iload_n 3, 1) := by decide +kernel
theorem d_M_putTerm_38 : decode prog_8_method_55_code 38 = .ok (.bipush 48, 2) := by decide +kernel
theorem d_M_putTerm_40 : decode prog_8_method_55_code 40 = .ok (.if_icmp .ge 95, 3) := by decide +kernel
theorem d_M_putTerm_43 : decode prog_8_method_55_code 43 = .ok (.aload_n 0, 1) := by decide +kernel
theorem d_M_putTerm_44 : decode prog_8_method_55_code 44 = .ok (.iload_n 1, 1) := by decide +kernel
theorem d_M_putTerm_45 : decode prog_8_method_55_code 45 = .ok (.iload_n 3, 1) := by decide +kernel
theorem d_M_putTerm_46 : decode prog_8_method_55_code 46 = .ok (.invokevirtual 90, 3) := by decide +kernel
theorem d_M_putTerm_49 : decode prog_8_method_55_code 49 = .ok (.ifCond .eq 80, 3) := by decide +kernel
theorem d_M_putTerm_52 : decode prog_8_method_55_code 52 = .ok (.iload_n 3, 1) := by decide +kernel
theorem d_M_putTerm_53 : decode prog_8_method_55_code 53 = .ok (.ifCond .le 17, 3) := by decide +kernel
theorem d_M_putTerm_56 : decode prog_8_method_55_code 56 = .ok (.aload_n 0, 1) := by decide +kernel
theorem d_M_putTerm_57 : decode prog_8_method_55_code 57 = .ok (.iload_n 1, 1) := by decide +kernel
theorem d_M_putTerm_58 : decode prog_8_method_55_code 58 = .ok (.iload_n 3, 1) := by decide +kernel
theorem d_M_putTerm_59 : decode prog_8_method_55_code 59 = .ok (.iconst 1, 1) := by decide +kernel
theorem d_M_putTerm_60 : decode prog_8_method_55_code 60 = .ok (.isub, 1) := by decide +kernel
theorem d_M_putTerm_61 : decode prog_8_method_55_code 61 = .ok (.invokevirtual 90, 3) := by decide +kernel
theorem d_M_putTerm_64 : decode prog_8_method_55_code 64 = .ok (.ifCond .eq 6, 3) := by decide +kernel
theorem d_M_putTerm_67 : decode prog_8_method_55_code 67 = .ok (.goto 62, 3) := by decide +kernel
theorem d_M_putTerm_70 : decode prog_8_method_55_code 70 = .ok (.iload_n 3, 1) := by decide +kernel
theorem d_M_putTerm_71 : decode prog_8_method_55_code 71 = .ok (.istore 4, 2) := by decide +kernel
theorem d_M_putTerm_73 : decode prog_8_method_55_code 73 = .ok (.aload_n 0, 1) := by decide +kernel
theorem d_M_putTerm_74 : decode prog_8_method_55_code 74 = .ok (.iload_n 1, 1) := by decide +kernel
theorem d_M_putTerm_75 : decode prog_8_method_55_code 75 = .ok (.iload 4, 2) := by decide +kernel
theorem d_M_putTerm_77 : decode prog_8_method_55_code 77 = .ok (.iconst 1, 1) := by decide +kernel
theorem d_M_putTerm_78 : decode prog_8_method_55_code 78 = .ok (.iadd, 1) := by decide +kernel
theorem d_M_putTerm_79 : decode prog_8_method_55_code 79 = .ok (.invokevirtual 90, 3) := by decide +kernel
theorem d_M_putTerm_82 : decode prog_8_method_55_code 82 = .ok (.ifCond .eq 9, 3) := by decide +kernel
theorem d_M_putTerm_85 : decode prog_8_method_55_code 85 = .ok (.iinc 4 1, 3) := by decide +kernel
theorem d_M_putTerm_88 : decode prog_8_method_55_code 88 = .ok (.goto (-15), 3) := by decide +kernel
theorem d_M_putTerm_91 : decode prog_8_method_55_code 91 = .ok (.iload_n 2, 1) := by decide +kernel
theorem d_M_putTerm_92 : decode prog_8_method_55_code 92 = .ok (.ifCond .eq 9, 3) := by decide +kernel
theorem d_M_putTerm_95 : decode prog_8_method_55_code 95 = .ok (.aload_n 0, 1) := by decide +kernel
theorem d_M_putTerm_96 : decode prog_8_method_55_code 96 = .ok (.bipush 44, 2) := by decide +kernel
theorem d_M_putTerm_98 : decode prog_8_method_55_code 98 = .ok (.invokevirtual 180, 3) := by decide +kernel
theorem d_M_putTerm_101 : decode prog_8_method_55_code 101 = .ok (.iconst 1, 1) := by decide +kernel
theorem d_M_putTerm_102 : decode prog_8_method_55_code 102 = .ok (.istore_n 2, 1) := by decide +kernel
theorem d_M_putTerm_103 : decode prog_8_method_55_code 103 = .ok (.aload_n 0, 1) := by decide +kernel
theorem d_M_putTerm_104 : decode prog_8_method_55_code 104 = .ok (.iload_n 3, 1) := by decide +kernel
theorem d_M_putTerm_105 : decode prog_8_method_55_code 105 = .ok (.invokevirtual 183, 3) := by decide +kernel
theorem d_M_putTerm_108 : decode prog_8_method_55_code 108 = .ok (.iload 4, 2) := by decide +kernel
theorem d_M_putTerm_110 : decode prog_8_method_55_code 110 = .ok (.iload_n 3, 1) := by decide +kernel
theorem d_M_putTerm_111 : decode prog_8_method_55_code 111 = .ok (.if_icmp .ne 6, 3) := by decide +kernel
theorem d_M_putTerm_114 : decode prog_8_method_55_code 114 = .ok (.goto 15, 3) := by decide +kernel
theorem d_M_putTerm_117 : decode prog_8_method_55_code 117 = .ok (.aload_n 0, 1) := by decide +kernel
theorem d_M_putTerm_118 : decode prog_8_method_55_code 118 = .ok (.bipush 45, 2) := by decide +kernel
theorem d_M_putTerm_120 : decode prog_8_method_55_code 120 = .ok (.invokevirtual 180, 3) := by decide +kernel
theorem d_M_putTerm_123 : decode prog_8_method_55_code 123 = .ok (.aload_n 0, 1) := by decide +kernel
theorem d_M_putTerm_124 : decode prog_8_method_55_code 124 = .ok (.iload 4, 2) := by decide +kernel
theorem d_M_putTerm_126 : decode prog_8_method_55_code 126 = .ok (.invokevirtual 183, 3) := by decide +kernel
theorem d_M_putTerm_129 : decode prog_8_method_55_code 129 = .ok (.iinc 3 1, 3) := by decide +kernel
theorem d_M_putTerm_132 : decode prog_8_method_55_code 132 = .ok (.goto (-95), 3) := by decide +kernel
theorem d_M_putTerm_135 : decode prog_8_method_55_code 135 = .ok (.return_, 1) := by decide +kernel
theorem d_M_putNumber_0 : decode prog_8_method_54_code 0 = .ok (.iload_n 1, 1) := by decide +kernel
theorem d_M_putNumber_1 : decode prog_8_method_54_code 1 = .ok (.bipush 9, 2) := by decide +kernel
theorem d_M_putNumber_3 : decode prog_8_method_54_code 3 = .ok (.if_icmp .le 14, 3) := by decide +kernel
theorem d_M_putNumber_6 : decode prog_8_method_54_code 6 = .ok (.aload_n 0, 1) := by decide +kernel
theorem d_M_putNumber_7 : decode prog_8_method_54_code 7 = .ok (.bipush 48, 2) := by decide +kernel
theorem d_M_putNumber_9 : decode prog_8_method_54_code 9 = .ok (.iload_n 1, 1) := by decide +kernel
theorem d_M_putNumber_10 : decode prog_8_method_54_code 10 = .ok (.bipush 10, 2) := by decide +kernel
theorem d_M_putNumber_12 : decode prog_8_method_54_code 12 = .ok (.idiv, 1) := by decide +kernel
theorem d_M_putNumber_13 : decode prog_8_method_54_code 13 = .ok (.iadd, 1) := by decide +kernel
theorem d_M_putNumber_14 : decode prog_8_method_54_code 14 = .ok (.invokevirtual 180, 3) := by decide +kernel
theorem d_M_putNumber_17 : decode prog_8_method_54_code 17 = .ok (.aload_n 0, 1) := by decide +kernel
theorem d_M_putNumber_18 : decode prog_8_method_54_code 18 = .ok (.bipush 48, 2) := by decide +kernel
theorem d_M_putNumber_20 : decode prog_8_method_54_code 20 = .ok (.iload_n 1, 1) := by decide +kernel
theorem d_M_putNumber_21 : decode prog_8_method_54_code 21 = .ok (.bipush 10, 2) := by decide +kernel
theorem d_M_putNumber_23 : decode prog_8_method_54_code 23 = .ok (.irem, 1) := by decide +kernel
theorem d_M_putNumber_24 : decode prog_8_method_54_code 24 = .ok (.iadd, 1) := by decide +kernel
theorem d_M_putNumber_25 : decode prog_8_method_54_code 25 = .ok (.invokevirtual 180, 3) := by decide +kernel
theorem d_M_putNumber_28 : decode prog_8_method_54_code 28 = .ok (.return_, 1) := by decide +kernel
theorem d_M_at_0 : decode prog_8_method_57_code 0 = .ok (.aload_n 0, 1) := by decide +kernel
theorem d_M_at_1 : decode prog_8_method_57_code 1 = .ok (.iconst 0, 1) := by decide +kernel
theorem d_M_at_2 : decode prog_8_method_57_code 2 = .ok (.putfield 61, 3) := by decide +kernel
theorem d_M_at_5 : decode prog_8_method_57_code 5 = .ok (.iload_n 1, 1) := by decide +kernel
theorem d_M_at_6 : decode prog_8_method_57_code 6 = .ok (.ifCond .lt 11, 3) := by decide +kernel
theorem d_M_at_9 : decode prog_8_method_57_code 9 = .ok (.iload_n 1, 1) := by decide +kernel
theorem d_M_at_10 : decode prog_8_method_57_code 10 = .ok (.aload_n 0, 1) := by decide +kernel
theorem d_M_at_11 : decode prog_8_method_57_code 11 = .ok (.getfield 177, 3) := by decide +kernel
theorem d_M_at_14 : decode prog_8_method_57_code 14 = .ok (.if_icmp .lt 7, 3) := by decide +kernel
theorem d_M_at_17 : decode prog_8_method_57_code 17 = .ok (.iconst (-1), 1) := by decide +kernel
theorem d_M_at_18 : decode prog_8_method_57_code 18 = .ok (.goto 9, 3) := by decide +kernel
theorem d_M_at_21 : decode prog_8_method_57_code 21 = .ok (.aload_n 0, 1) := by decide +kernel
theorem d_M_at_22 : decode prog_8_method_57_code 22 = .ok (.getfield 58, 3) := by decide +kernel
theorem d_M_at_25 : decode prog_8_method_57_code 25 = .ok (.iload_n 1, 1) := by decide +kernel
theorem d_M_at_26 : decode prog_8_method_57_code 26 = .ok (.iaload, 1) := by decide +kernel
theorem d_M_at_27 : decode prog_8_method_57_code 27 = .ok (.ireturn, 1) := by decide +kernel
