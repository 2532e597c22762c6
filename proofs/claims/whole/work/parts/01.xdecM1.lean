theorem d_M_init_0 : decode prog_8_method_1_code 0 = .ok (.aload_n 0, 1) := by decide +kernel
theorem d_M_init_1 : decode prog_8_method_1_code 1 = .ok (.invokespecial 1, 3) := by decide +kernel
theorem d_M_init_4 : decode prog_8_method_1_code 4 = .ok (.aload_n 0, 1) := by decide +kernel
theorem d_M_init_5 : decode prog_8_method_1_code 5 = .ok (.bipush 16, 2) := by decide +kernel
theorem d_M_init_7 : decode prog_8_method_1_code 7 = .ok (.newarray .int, 2) := by decide +kernel
theorem d_M_init_9 : decode prog_8_method_1_code 9 = .ok (.putfield 7, 3) := by decide +kernel
theorem d_M_init_12 : decode prog_8_method_1_code 12 = .ok (.aload_n 0, 1) := by decide +kernel
theorem d_M_init_13 : decode prog_8_method_1_code 13 = .ok (.sipush 5420, 3) := by decide +kernel
theorem d_M_init_16 : decode prog_8_method_1_code 16 = .ok (.newarray .int, 2) := by decide +kernel
theorem d_M_init_18 : decode prog_8_method_1_code 18 = .ok (.putfield 13, 3) := by decide +kernel
theorem d_M_init_21 : decode prog_8_method_1_code 21 = .ok (.aload_n 0, 1) := by decide +kernel
theorem d_M_init_22 : decode prog_8_method_1_code 22 = .ok (.ldc 16, 2) := by decide +kernel
theorem d_M_init_24 : decode prog_8_method_1_code 24 = .ok (.newarray .boolean, 2) := by decide +kernel
theorem d_M_init_26 : decode prog_8_method_1_code 26 = .ok (.putfield 17, 3) := by decide +kernel
theorem d_M_init_29 : decode prog_8_method_1_code 29 = .ok (.aload_n 0, 1) := by decide +kernel
theorem d_M_init_30 : decode prog_8_method_1_code 30 = .ok (.sipush 300, 3) := by decide +kernel
theorem d_M_init_33 : decode prog_8_method_1_code 33 = .ok (.newarray .int, 2) := by decide +kernel
theorem d_M_init_35 : decode prog_8_method_1_code 35 = .ok (.putfield 21, 3) := by decide +kernel
theorem d_M_init_38 : decode prog_8_method_1_code 38 = .ok (.aload_n 0, 1) := by decide +kernel
theorem d_M_init_39 : decode prog_8_method_1_code 39 = .ok (.sipush 300, 3) := by decide +kernel
theorem d_M_init_42 : decode prog_8_method_1_code 42 = .ok (.newarray .int, 2) := by decide +kernel
theorem d_M_init_44 : decode prog_8_method_1_code 44 = .ok (.putfield 24, 3) := by decide +kernel
theorem d_M_init_47 : decode prog_8_method_1_code 47 = .ok (.aload_n 0, 1) := by decide +kernel
theorem d_M_init_48 : decode prog_8_method_1_code 48 = .ok (.sipush 300, 3) := by decide +kernel
theorem d_M_init_51 : decode prog_8_method_1_code 51 = .ok (.newarray .int, 2) := by decide +kernel
theorem d_M_init_53 : decode prog_8_method_1_code 53 = .ok (.putfield 27, 3) := by decide +kernel
theorem d_M_init_56 : decode prog_8_method_1_code 56 = .ok (.aload_n 0, 1) := by decide +kernel
theorem d_M_init_57 : decode prog_8_method_1_code 57 = .ok (.sipush 300, 3) := by decide +kernel
theorem d_M_init_60 : decode prog_8_method_1_code 60 = .ok (.newarray .int, 2) := by decide +kernel
theorem d_M_init_62 : decode prog_8_method_1_code 62 = .ok (.putfield 30, 3) := by decide +kernel
theorem d_M_init_65 : decode prog_8_method_1_code 65 = .ok (.aload_n 0, 1) := by decide +kernel
theorem d_M_init_66 : decode prog_8_method_1_code 66 = .ok (.sipush 300, 3) := by decide +kernel
theorem d_M_init_69 : decode prog_8_method_1_code 69 = .ok (.newarray .int, 2) := by decide +kernel
theorem d_M_init_71 : decode prog_8_method_1_code 71 = .ok (.putfield 33, 3) := by decide +kernel
theorem d_M_init_74 : decode prog_8_method_1_code 74 = .ok (.aload_n 0, 1) := by decide +kernel
theorem d_M_init_75 : decode prog_8_method_1_code 75 = .ok (.sipush 300, 3) := by decide +kernel
theorem d_M_init_78 : decode prog_8_method_1_code 78 = .ok (.newarray .int, 2) := by decide +kernel
theorem d_M_init_80 : decode prog_8_method_1_code 80 = .ok (.putfield 36, 3) := by decide +kernel
theorem d_M_init_83 : decode prog_8_method_1_code 83 = .ok (.aload_n 0, 1) := by decide +kernel
theorem d_M_init_84 : decode prog_8_method_1_code 84 = .ok (.sipush 300, 3) := by decide +kernel
theorem d_M_init_87 : decode prog_8_method_1_code 87 = .ok (.newarray .long, 2) := by decide +kernel
theorem d_M_init_89 : decode prog_8_method_1_code 89 = .ok (.putfield 39, 3) := by decide +kernel
theorem d_M_init_92 : decode prog_8_method_1_code 92 = .ok (.aload_n 0, 1) := by decide +kernel
theorem d_M_init_93 : decode prog_8_method_1_code 93 = .ok (.sipush 400, 3) := by decide +kernel
theorem d_M_init_96 : decode prog_8_method_1_code 96 = .ok (.newarray .int, 2) := by decide +kernel
theorem d_M_init_98 : decode prog_8_method_1_code 98 = .ok (.putfield 43, 3) := by decide +kernel
theorem d_M_init_101 : decode prog_8_method_1_code 101 = .ok (.aload_n 0, 1) := by decide +kernel
theorem d_M_init_102 : decode prog_8_method_1_code 102 = .ok (.sipush 400, 3) := by decide +kernel
theorem d_M_init_105 : decode prog_8_method_1_code 105 = .ok (.newarray .int, 2) := by decide +kernel
theorem d_M_init_107 : decode prog_8_method_1_code 107 = .ok (.putfield 46, 3) := by decide +kernel
theorem d_M_init_110 : decode prog_8_method_1_code 110 = .ok (.aload_n 0, 1) := by decide +kernel
theorem d_M_init_111 : decode prog_8_method_1_code 111 = .ok (.sipush 400, 3) := by decide +kernel
theorem d_M_init_114 : decode prog_8_method_1_code 114 = .ok (.newarray .int, 2) := by decide +kernel
theorem d_M_init_116 : decode prog_8_method_1_code 116 = .ok (.putfield 49, 3) := by decide +kernel
theorem d_M_init_119 : decode prog_8_method_1_code 119 = .ok (.aload_n 0, 1) := by decide +kernel
theorem d_M_init_120 : decode prog_8_method_1_code 120 = .ok (.sipush 400, 3) := by decide +kernel
theorem d_M_init_123 : decode prog_8_method_1_code 123 = .ok (.newarray .int, 2) := by decide +kernel
theorem d_M_init_125 : decode prog_8_method_1_code 125 = .ok (.putfield 52, 3) := by decide +kernel
theorem d_M_init_128 : decode prog_8_method_1_code 128 = .ok (.aload_n 0, 1) := by decide +kernel
theorem d_M_init_129 : decode prog_8_method_1_code 129 = .ok (.sipush 400, 3) := by decide +kernel
theorem d_M_init_132 : decode prog_8_method_1_code 132 = .ok (.newarray .long, 2) := by decide +kernel
theorem d_M_init_134 : decode prog_8_method_1_code 134 = .ok (.putfield 55, 3) := by decide +kernel
theorem d_M_init_137 : decode prog_8_method_1_code 137 = .ok (.aload_n 0, 1) := by decide +kernel
theorem d_M_init_138 : decode prog_8_method_1_code 138 = .ok (.sipush 8000, 3) := by decide +kernel
theorem d_M_init_141 : decode prog_8_method_1_code 141 = .ok (.newarray .int, 2) := by decide +kernel
theorem d_M_init_143 : decode prog_8_method_1_code 143 = .ok (.putfield 58, 3) := by decide +kernel
theorem d_M_init_146 : decode prog_8_method_1_code 146 = .ok (.return_, 1) := by decide +kernel
theorem d_M_versions_0 : decode prog_8_method_6_code 0 = .ok (.aload_n 0, 1) := by decide +kernel
theorem d_M_versions_1 : decode prog_8_method_6_code 1 = .ok (.iconst 0, 1) := by decide +kernel
theorem d_M_versions_2 : decode prog_8_method_6_code 2 = .ok (.putfield 61, 3) := by decide +kernel
theorem d_M_versions_5 : decode prog_8_method_6_code 5 = .ok (.aload_n 0, 1) := by decide +kernel
theorem d_M_versions_6 : decode prog_8_method_6_code 6 = .ok (.getfield 65, 3) := by decide +kernel
theorem d_M_versions_9 : decode prog_8_method_6_code 9 = .ok (.bipush 16, 2) := by decide +kernel
theorem d_M_versions_11 : decode prog_8_method_6_code 11 = .ok (.if_icmp .eq 13, 3) := by decide +kernel
theorem d_M_versions_14 : decode prog_8_method_6_code 14 = .ok (.iload_n 1, 1) := by decide +kernel
theorem d_M_versions_15 : decode prog_8_method_6_code 15 = .ok (.ifCond .lt 9, 3) := by decide +kernel
theorem d_M_versions_18 : decode prog_8_method_6_code 18 = .ok (.iload_n 1, 1) := by decide +kernel
theorem d_M_versions_19 : decode prog_8_method_6_code 19 = .ok (.bipush 48, 2) := by decide +kernel
theorem d_M_versions_21 : decode prog_8_method_6_code 21 = .ok (.if_icmp .le 5, 3) := by decide +kernel
theorem d_M_versions_24 : decode prog_8_method_6_code 24 = .ok (.iconst (-1), 1) := by decide +kernel
theorem d_M_versions_25 : decode prog_8_method_6_code 25 = .ok (.ireturn, 1) := by decide +kernel
theorem d_M_versions_26 : decode prog_8_method_6_code 26 = .ok (.aload_n 0, 1) := by decide +kernel
theorem d_M_versions_27 : decode prog_8_method_6_code 27 = .ok (.getfield 7, 3) := by decide +kernel
theorem d_M_versions_30 : decode prog_8_method_6_code 30 = .ok (.aload_n 0, 1) := by decide +kernel
theorem d_M_versions_31 : decode prog_8_method_6_code 31 = .ok (.getfield 65, 3) := by decide +kernel
theorem d_M_versions_34 : decode prog_8_method_6_code 34 = .ok (.iload_n 1, 1) := by decide +kernel
theorem d_M_versions_35 : decode prog_8_method_6_code 35 = .ok (.iastore, 1) := by decide +kernel
theorem d_M_versions_36 : decode prog_8_method_6_code 36 = .ok (.aload_n 0, 1) := by decide +kernel
theorem d_M_versions_37 : decode prog_8_method_6_code 37 = .ok (.getfield 13, 3) := by decide +kernel
theorem d_M_versions_40 : decode prog_8_method_6_code 40 = .ok (.sipush 5400, 3) := by decide +kernel
theorem d_M_versions_43 : decode prog_8_method_6_code 43 = .ok (.aload_n 0, 1) := by decide +kernel
theorem d_M_versions_44 : decode prog_8_method_6_code 44 = .ok (.getfield 65, 3) := by decide +kernel
theorem d_M_versions_47 : decode prog_8_method_6_code 47 = .ok (.iadd, 1) := by decide +kernel
theorem d_M_versions_48 : decode prog_8_method_6_code 48 = .ok (.aload_n 0, 1) := by decide +kernel
theorem d_M_versions_49 : decode prog_8_method_6_code 49 = .ok (.getfield 65, 3) := by decide +kernel
theorem d_M_versions_52 : decode prog_8_method_6_code 52 = .ok (.iastore, 1) := by decide +kernel
theorem d_M_versions_53 : decode prog_8_method_6_code 53 = .ok (.aload_n 0, 1) := by decide +kernel
theorem d_M_versions_54 : decode prog_8_method_6_code 54 = .ok (.dup, 1) := by decide +kernel
theorem d_M_versions_55 : decode prog_8_method_6_code 55 = .ok (.getfield 65, 3) := by decide +kernel
theorem d_M_versions_58 : decode prog_8_method_6_code 58 = .ok (.iconst 1, 1) := by decide +kernel
theorem d_M_versions_59 : decode prog_8_method_6_code 59 = .ok (.iadd, 1) := by decide +kernel
theorem d_M_versions_60 : decode prog_8_method_6_code 60 = .ok (.putfield 65, 3) := by decide +kernel
theorem d_M_versions_63 : decode prog_8_method_6_code 63 = .ok (.aload_n 0, 1) := by decide +kernel
theorem d_M_versions_64 : decode prog_8_method_6_code 64 = .ok (.sipush 5400, 3) := by decide +kernel
theorem d_M_versions_67 : decode prog_8_method_6_code 67 = .ok (.aload_n 0, 1) := by decide +kernel
theorem d_M_versions_68 : decode prog_8_method_6_code 68 = .ok (.getfield 65, 3) := by decide +kernel
theorem d_M_versions_71 : decode prog_8_method_6_code 71 = .ok (.iadd, 1) := by decide +kernel
theorem d_M_versions_72 : decode prog_8_method_6_code 72 = .ok (.iconst 1, 1) := by decide +kernel
theorem d_M_versions_73 : decode prog_8_method_6_code 73 = .ok (.isub, 1) := by decide +kernel
theorem d_M_versions_74 : decode prog_8_method_6_code 74 = .ok (.invokevirtual 74, 3) := by decide +kernel
theorem d_M_versions_77 : decode prog_8_method_6_code 77 = .ok (.aload_n 0, 1) := by decide +kernel
theorem d_M_versions_78 : decode prog_8_method_6_code 78 = .ok (.getfield 65, 3) := by decide +kernel
theorem d_M_versions_81 : decode prog_8_method_6_code 81 = .ok (.iconst 1, 1) := by decide +kernel
theorem d_M_versions_82 : decode prog_8_method_6_code 82 = .ok (.isub, 1) := by decide +kernel
theorem d_M_versions_83 : decode prog_8_method_6_code 83 = .ok (.ireturn, 1) := by decide +kernel
theorem d_M_full_0 : decode prog_8_method_9_code 0 = .ok (.iconst (-1), 1) := by decide +kernel
theorem d_M_full_1 : decode prog_8_method_9_code 1 = .ok (.istore_n 2, 1) := by decide +kernel
theorem d_M_full_2 : decode prog_8_method_9_code 2 = .ok (.iload_n 2, 1) := by decide +kernel
theorem d_M_full_3 : decode prog_8_method_9_code 3 = .ok (.bipush 48, 2) := by decide +kernel
theorem d_M_full_5 : decode prog_8_method_9_code 5 = .ok (.if_icmp .ge 35, 3) := by decide +kernel
theorem d_M_full_8 : decode prog_8_method_9_code 8 = .ok (.aload_n 0, 1) := by decide +kernel
theorem d_M_full_9 : decode prog_8_method_9_code 9 = .ok (.iload_n 1, 1) := by decide +kernel
theorem d_M_full_10 : decode prog_8_method_9_code 10 = .ok (.iload_n 2, 1) := by decide +kernel
theorem d_M_full_11 : decode prog_8_method_9_code 11 = .ok (.iload_n 2, 1) := by decide +kernel
theorem d_M_full_12 : decode prog_8_method_9_code 12 = .ok (.aload_n 0, 1) := by decide +kernel
theorem d_M_full_13 : decode prog_8_method_9_code 13 = .ok (.getfield 7, 3) := by decide +kernel
theorem d_M_full_16 : decode prog_8_method_9_code 16 = .ok (.aload_n 0, 1) := by decide +kernel
theorem d_M_full_17 : decode prog_8_method_9_code 17 = .ok (.getfield 13, 3) := by decide +kernel
theorem d_M_full_20 : decode prog_8_method_9_code 20 = .ok (.iload_n 1, 1) := by decide +kernel
theorem d_M_full_21 : decode prog_8_method_9_code 21 = .ok (.iaload, 1) := by decide +kernel
theorem d_M_full_22 : decode prog_8_method_9_code 22 = .ok (.iaload, 1) := by decide +kernel
theorem d_M_full_23 : decode prog_8_method_9_code 23 = .ok (.if_icmp .ge 7, 3) := by decide +kernel
theorem d_M_full_26 : decode prog_8_method_9_code 26 = .ok (.iconst 1, 1) := by decide +kernel
theorem d_M_full_27 : decode prog_8_method_9_code 27 = .ok (.goto 4, 3) := by decide +kernel
theorem d_M_full_30 : decode prog_8_method_9_code 30 = .ok (.iconst 0, 1) := by decide +kernel
theorem d_M_full_31 : decode prog_8_method_9_code 31 = .ok (.invokevirtual 78, 3) := by decide +kernel
theorem d_M_full_34 : decode prog_8_method_9_code 34 = .ok (.iinc 2 1, 3) := by decide +kernel
theorem d_M_full_37 : decode prog_8_method_9_code 37 = .ok (.goto (-35), 3) := by decide +kernel
theorem d_M_full_40 : decode prog_8_method_9_code 40 = .ok (.return_, 1) := by decide +kernel
theorem d_M_tell_0 : decode prog_8_method_8_code 0 = .ok (.aload_n 0, 1) := by decide +kernel
theorem d_M_tell_1 : decode prog_8_method_8_code 1 = .ok (.getfield 17, 3) := by decide +kernel
theorem d_M_tell_4 : decode prog_8_method_8_code 4 = .ok (.bipush 49, 2) := by decide +kernel
theorem d_M_tell_6 : decode prog_8_method_8_code 6 = .ok (.iload_n 1, 1) := by decide +kernel
theorem d_M_tell_7 : decode prog_8_method_8_code 7 = .ok (.imul, 1) := by decide +kernel
theorem d_M_tell_8 : decode prog_8_method_8_code 8 = .ok (.iload_n 2, 1) := by decide +kernel
theorem d_M_tell_9 : decode prog_8_method_8_code 9 = .ok (.iadd, 1) := by decide +kernel
theorem d_M_tell_10 : decode prog_8_method_8_code 10 = .ok (.iconst 1, 1) := by decide +kernel
theorem d_M_tell_11 : decode prog_8_method_8_code 11 = .ok (.iadd, 1) := by decide +kernel
theorem d_M_tell_12 : decode prog_8_method_8_code 12 = .ok (.iload_n 3, 1) := by decide +kernel
theorem d_M_tell_13 : decode prog_8_method_8_code 13 = .ok (.bastore, 1) := by decide +kernel
theorem d_M_tell_14 : decode prog_8_method_8_code 14 = .ok (.return_, 1) := by decide +kernel
theorem d_M_term_0 : decode prog_8_method_18_code 0 = .ok (.aload_n 0, 1) := by decide +kernel
theorem d_M_term_1 : decode prog_8_method_18_code 1 = .ok (.iconst 0, 1) := by decide +kernel
theorem d_M_term_2 : decode prog_8_method_18_code 2 = .ok (.putfield 61, 3) := by decide +kernel
theorem d_M_term_5 : decode prog_8_method_18_code 5 = .ok (.aload_n 0, 1) := by decide +kernel
theorem d_M_term_6 : decode prog_8_method_18_code 6 = .ok (.iload_n 1, 1) := by decide +kernel
theorem d_M_term_7 : decode prog_8_method_18_code 7 = .ok (.invokevirtual 93, 3) := by decide +kernel
theorem d_M_term_10 : decode prog_8_method_18_code 10 = .ok (.ifCond .eq 13, 3) := by decide +kernel
theorem d_M_term_13 : decode prog_8_method_18_code 13 = .ok (.aload_n 0, 1) := by decide +kernel
theorem d_M_term_14 : decode prog_8_method_18_code 14 = .ok (.getfield 68, 3) := by decide +kernel
theorem d_M_term_17 : decode prog_8_method_18_code 17 = .ok (.sipush 600, 3) := by decide +kernel
theorem d_M_term_20 : decode prog_8_method_18_code 20 = .ok (.if_icmp .ne 5, 3) := by decide +kernel
theorem d_M_term_23 : decode prog_8_method_18_code 23 = .ok (.iconst (-1), 1) := by decide +kernel
theorem d_M_term_24 : decode prog_8_method_18_code 24 = .ok (.ireturn, 1) := by decide +kernel
theorem d_M_term_25 : decode prog_8_method_18_code 25 = .ok (.aload_n 0, 1) := by decide +kernel
theorem d_M_term_26 : decode prog_8_method_18_code 26 = .ok (.aload_n 0, 1) := by decide +kernel
theorem d_M_term_27 : decode prog_8_method_18_code 27 = .ok (.getfield 68, 3) := by decide +kernel
theorem d_M_term_30 : decode prog_8_method_18_code 30 = .ok (.iload_n 1, 1) := by decide +kernel
theorem d_M_term_31 : decode prog_8_method_18_code 31 = .ok (.lload_n 2, 1) := by decide +kernel
theorem d_M_term_32 : decode prog_8_method_18_code 32 = .ok (.iload 4, 2) := by decide +kernel
theorem d_M_term_34 : decode prog_8_method_18_code 34 = .ok (.invokevirtual 96, 3) := by decide +kernel
theorem d_M_term_37 : decode prog_8_method_18_code 37 = .ok (.aload_n 0, 1) := by decide +kernel
theorem d_M_term_38 : decode prog_8_method_18_code 38 = .ok (.dup, 1) := by decide +kernel
theorem d_M_term_39 : decode prog_8_method_18_code 39 = .ok (.getfield 68, 3) := by decide +kernel
theorem d_M_term_42 : decode prog_8_method_18_code 42 = .ok (.iconst 1, 1) := by decide +kernel
theorem d_M_term_43 : decode prog_8_method_18_code 43 = .ok (.iadd, 1) := by decide +kernel
theorem d_M_term_44 : decode prog_8_method_18_code 44 = .ok (.putfield 68, 3) := by decide +kernel
theorem d_M_term_47 : decode prog_8_method_18_code 47 = .ok (.aload_n 0, 1) := by decide +kernel
theorem d_M_term_48 : decode prog_8_method_18_code 48 = .ok (.getfield 68, 3) := by decide +kernel
theorem d_M_term_51 : decode prog_8_method_18_code 51 = .ok (.iconst 1, 1) := by decide +kernel
theorem d_M_term_52 : decode prog_8_method_18_code 52 = .ok (.isub, 1) := by decide +kernel
theorem d_M_term_53 : decode prog_8_method_18_code 53 = .ok (.ireturn, 1) := by decide +kernel
theorem d_M_isName_0 : decode prog_8_method_3_code 0 = .ok (.iload_n 1, 1) := by decide +kernel
theorem d_M_isName_1 : decode prog_8_method_3_code 1 = .ok (.ifCond .lt 15, 3) := by decide +kernel
theorem d_M_isName_4 : decode prog_8_method_3_code 4 = .ok (.iload_n 1, 1) := by decide +kernel
theorem d_M_isName_5 : decode prog_8_method_3_code 5 = .ok (.aload_n 0, 1) := by decide +kernel
theorem d_M_isName_6 : decode prog_8_method_3_code 6 = .ok (.getfield 65, 3) := by decide +kernel
theorem d_M_isName_9 : decode prog_8_method_3_code 9 = .ok (.if_icmp .ge 7, 3) := by decide +kernel
theorem d_M_isName_12 : decode prog_8_method_3_code 12 = .ok (.iconst 1, 1) := by decide +kernel
theorem d_M_isName_13 : decode prog_8_method_3_code 13 = .ok (.goto 4, 3) := by decide +kernel
theorem d_M_isName_16 : decode prog_8_method_3_code 16 = .ok (.iconst 0, 1) := by decide +kernel
theorem d_M_isName_17 : decode prog_8_method_3_code 17 = .ok (.ireturn, 1) := by decide +kernel
theorem d_M_make_0 : decode prog_8_method_10_code 0 = .ok (.aload_n 0, 1) := by decide +kernel
theorem d_M_make_1 : decode prog_8_method_10_code 1 = .ok (.getfield 13, 3) := by decide +kernel
theorem d_M_make_4 : decode prog_8_method_10_code 4 = .ok (.iload_n 1, 1) := by decide +kernel
theorem d_M_make_5 : decode prog_8_method_10_code 5 = .ok (.iload_n 2, 1) := by decide +kernel
theorem d_M_make_6 : decode prog_8_method_10_code 6 = .ok (.iastore, 1) := by decide +kernel
theorem d_M_make_7 : decode prog_8_method_10_code 7 = .ok (.aload_n 0, 1) := by decide +kernel
theorem d_M_make_8 : decode prog_8_method_10_code 8 = .ok (.iload_n 1, 1) := by decide +kernel
theorem d_M_make_9 : decode prog_8_method_10_code 9 = .ok (.iconst (-1), 1) := by decide +kernel
theorem d_M_make_10 : decode prog_8_method_10_code 10 = .ok (.iload 5, 2) := by decide +kernel
theorem d_M_make_12 : decode prog_8_method_10_code 12 = .ok (.ifCond .ne 7, 3) := by decide +kernel
theorem d_M_make_15 : decode prog_8_method_10_code 15 = .ok (.iconst 1, 1) := by decide +kernel
theorem d_M_make_16 : decode prog_8_method_10_code 16 = .ok (.goto 4, 3) := by decide +kernel
theorem d_M_make_19 : decode prog_8_method_10_code 19 = .ok (.iconst 0, 1) := by decide +kernel
theorem d_M_make_20 : decode prog_8_method_10_code 20 = .ok (.invokevirtual 78, 3) := by decide +kernel
theorem d_M_make_23 : decode prog_8_method_10_code 23 = .ok (.iconst 0, 1) := by decide +kernel
theorem d_M_make_24 : decode prog_8_method_10_code 24 = .ok (.istore 6, 2) := by decide +kernel
theorem d_M_make_26 : decode prog_8_method_10_code 26 = .ok (.iload 6, 2) := by decide +kernel
theorem d_M_make_28 : decode prog_8_method_10_code 28 = .ok (.bipush 48, 2) := by decide +kernel
theorem d_M_make_30 : decode prog_8_method_10_code 30 = .ok (.if_icmp .ge 53, 3) := by decide +kernel
theorem d_M_make_33 : decode prog_8_method_10_code 33 = .ok (.aload_n 0, 1) := by decide +kernel
theorem d_M_make_34 : decode prog_8_method_10_code 34 = .ok (.iload_n 1, 1) := by decide +kernel
theorem d_M_make_35 : decode prog_8_method_10_code 35 = .ok (.iload 6, 2) := by decide +kernel
theorem d_M_make_37 : decode prog_8_method_10_code 37 = .ok (.iload 6, 2) := by decide +kernel
theorem d_M_make_39 : decode prog_8_method_10_code 39 = .ok (.aload_n 0, 1) := by decide +kernel
theorem d_M_make_40 : decode prog_8_method_10_code 40 = .ok (.getfield 7, 3) := by decide +kernel
theorem d_M_make_43 : decode prog_8_method_10_code 43 = .ok (.iload_n 2, 1) := by decide +kernel
theorem d_M_make_44 : decode prog_8_method_10_code 44 = .ok (.iaload, 1) := by decide +kernel
theorem d_M_make_45 : decode prog_8_method_10_code 45 = .ok (.if_icmp .ge 28, 3) := by decide +kernel
theorem d_M_make_48 : decode prog_8_method_10_code 48 = .ok (.lload_n 3, 1) := by decide +kernel
theorem d_M_make_49 : decode prog_8_method_10_code 49 = .ok (.iload 6, 2) := by decide +kernel
theorem d_M_make_51 : decode prog_8_method_10_code 51 = .ok (.lshr, 1) := by decide +kernel
theorem d_M_make_52 : decode prog_8_method_10_code 52 = .ok (.lconst 1, 1) := by decide +kernel
theorem d_M_make_53 : decode prog_8_method_10_code 53 = .ok (.land, 1) := by decide +kernel
theorem d_M_make_54 : decode prog_8_method_10_code 54 = .ok (.lconst 1, 1) := by decide +kernel
theorem d_M_make_55 : decode prog_8_method_10_code 55 = .ok (.lcmp, 1) := by decide +kernel
theorem d_M_make_56 : decode prog_8_method_10_code 56 = .ok (.ifCond .ne 7, 3) := by decide +kernel
theorem d_M_make_59 : decode prog_8_method_10_code 59 = .ok (.iconst 1, 1) := by decide +kernel
theorem d_M_make_60 : decode prog_8_method_10_code 60 = .ok (.goto 4, 3) := by decide +kernel
theorem d_M_make_63 : decode prog_8_method_10_code 63 = .ok (.iconst 0, 1) := by decide +kernel
theorem d_M_make_64 : decode prog_8_method_10_code 64 = .ok (.iload 5, 2) := by decide +kernel
theorem d_M_make_66 : decode prog_8_method_10_code 66 = .ok (.if_icmp .ne 7, 3) := by decide +kernel
theorem d_M_make_69 : decode prog_8_method_10_code 69 = .ok (.iconst 1, 1) := by decide +kernel
theorem d_M_make_70 : decode prog_8_method_10_code 70 = .ok (.goto 4, 3) := by decide +kernel
theorem d_M_make_73 : decode prog_8_method_10_code 73 = .ok (.iconst 0, 1) := by decide +kernel
theorem d_M_make_74 : decode prog_8_method_10_code 74 = .ok (.invokevirtual 78, 3) := by decide +kernel
theorem d_M_make_77 : decode prog_8_method_10_code 77 = .ok (.iinc 6 1, 3) := by decide +kernel
theorem d_M_make_80 : decode prog_8_method_10_code 80 = .ok (.goto (-54), 3) := by decide +kernel
theorem d_M_make_83 : decode prog_8_method_10_code 83 = .ok (.return_, 1) := by decide +kernel
theorem d_M_both_0 : decode prog_8_method_19_code 0 = .ok (.aload_n 0, 1) := by decide +kernel
theorem d_M_both_1 : decode prog_8_method_19_code 1 = .ok (.iconst 0, 1) := by decide +kernel
theorem d_M_both_2 : decode prog_8_method_19_code 2 = .ok (.putfield 61, 3) := by decide +kernel
theorem d_M_both_5 : decode prog_8_method_19_code 5 = .ok (.aload_n 0, 1) := by decide +kernel
theorem d_M_both_6 : decode prog_8_method_19_code 6 = .ok (.iload_n 1, 1) := by decide +kernel
theorem d_M_both_7 : decode prog_8_method_19_code 7 = .ok (.invokevirtual 100, 3) := by decide +kernel
theorem d_M_both_10 : decode prog_8_method_19_code 10 = .ok (.ifCond .eq 36, 3) := by decide +kernel
theorem d_M_both_13 : decode prog_8_method_19_code 13 = .ok (.aload_n 0, 1) := by decide +kernel
theorem d_M_both_14 : decode prog_8_method_19_code 14 = .ok (.iload_n 2, 1) := by decide +kernel
theorem d_M_both_15 : decode prog_8_method_19_code 15 = .ok (.invokevirtual 100, 3) := by decide +kernel
theorem d_M_both_18 : decode prog_8_method_19_code 18 = .ok (.ifCond .eq 28, 3) := by decide +kernel
theorem d_M_both_21 : decode prog_8_method_19_code 21 = .ok (.aload_n 0, 1) := by decide +kernel
theorem d_M_both_22 : decode prog_8_method_19_code 22 = .ok (.getfield 13, 3) := by decide +kernel
theorem d_M_both_25 : decode prog_8_method_19_code 25 = .ok (.iload_n 1, 1) := by decide +kernel
theorem d_M_both_26 : decode prog_8_method_19_code 26 = .ok (.iaload, 1) := by decide +kernel
theorem d_M_both_27 : decode prog_8_method_19_code 27 = .ok (.aload_n 0, 1) := by decide +kernel
theorem d_M_both_28 : decode prog_8_method_19_code 28 = .ok (.getfield 13, 3) := by decide +kernel
theorem d_M_both_31 : decode prog_8_method_19_code 31 = .ok (.iload_n 2, 1) := by decide +kernel
theorem d_M_both_32 : decode prog_8_method_19_code 32 = .ok (.iaload, 1) := by decide +kernel
theorem d_M_both_33 : decode prog_8_method_19_code 33 = .ok (.if_icmp .ne 13, 3) := by decide +kernel
theorem d_M_both_36 : decode prog_8_method_19_code 36 = .ok (.aload_n 0, 1) := by decide +kernel
theorem d_M_both_37 : decode prog_8_method_19_code 37 = .ok (.getfield 68, 3) := by decide +kernel
theorem d_M_both_40 : decode prog_8_method_19_code 40 = .ok (.sipush 600, 3) := by decide +kernel
theorem d_M_both_43 : decode prog_8_method_19_code 43 = .ok (.if_icmp .ne 5, 3) := by decide +kernel
theorem d_M_both_46 : decode prog_8_method_19_code 46 = .ok (.iconst (-1), 1) := by decide +kernel
theorem d_M_both_47 : decode prog_8_method_19_code 47 = .ok (.ireturn, 1) := by decide +kernel
theorem d_M_both_48 : decode prog_8_method_19_code 48 = .ok (.aload_n 0, 1) := by decide +kernel
theorem d_M_both_49 : decode prog_8_method_19_code 49 = .ok (.aload_n 0, 1) := by decide +kernel
theorem d_M_both_50 : decode prog_8_method_19_code 50 = .ok (.getfield 68, 3) := by decide +kernel
theorem d_M_both_53 : decode prog_8_method_19_code 53 = .ok (.iload_n 1, 1) := by decide +kernel
theorem d_M_both_54 : decode prog_8_method_19_code 54 = .ok (.iload_n 2, 1) := by decide +kernel
theorem d_M_both_55 : decode prog_8_method_19_code 55 = .ok (.iload_n 3, 1) := by decide +kernel
theorem d_M_both_56 : decode prog_8_method_19_code 56 = .ok (.invokevirtual 103, 3) := by decide +kernel
theorem d_M_both_59 : decode prog_8_method_19_code 59 = .ok (.aload_n 0, 1) := by decide +kernel
theorem d_M_both_60 : decode prog_8_method_19_code 60 = .ok (.dup, 1) := by decide +kernel
theorem d_M_both_61 : decode prog_8_method_19_code 61 = .ok (.getfield 68, 3) := by decide +kernel
theorem d_M_both_64 : decode prog_8_method_19_code 64 = .ok (.iconst 1, 1) := by decide +kernel
theorem d_M_both_65 : decode prog_8_method_19_code 65 = .ok (.iadd, 1) := by decide +kernel
theorem d_M_both_66 : decode prog_8_method_19_code 66 = .ok (.putfield 68, 3) := by decide +kernel
theorem d_M_both_69 : decode prog_8_method_19_code 69 = .ok (.aload_n 0, 1) := by decide +kernel
theorem d_M_both_70 : decode prog_8_method_19_code 70 = .ok (.getfield 68, 3) := by decide +kernel
theorem d_M_both_73 : decode prog_8_method_19_code 73 = .ok (.iconst 1, 1) := by decide +kernel
theorem d_M_both_74 : decode prog_8_method_19_code 74 = .ok (.isub, 1) := by decide +kernel
theorem d_M_both_75 : decode prog_8_method_19_code 75 = .ok (.ireturn, 1) := by decide +kernel
theorem d_M_isTerm_0 : decode prog_8_method_4_code 0 = .ok (.iload_n 1, 1) := by decide +kernel
theorem d_M_isTerm_1 : decode prog_8_method_4_code 1 = .ok (.ifCond .lt 15, 3) := by decide +kernel
theorem d_M_isTerm_4 : decode prog_8_method_4_code 4 = .ok (.iload_n 1, 1) := by decide +kernel
theorem d_M_isTerm_5 : decode prog_8_method_4_code 5 = .ok (.aload_n 0, 1) := by decide +kernel
theorem d_M_isTerm_6 : decode prog_8_method_4_code 6 = .ok (.getfield 68, 3) := by decide +kernel
theorem d_M_isTerm_9 : decode prog_8_method_4_code 9 = .ok (.if_icmp .ge 7, 3) := by decide +kernel
theorem d_M_isTerm_12 : decode prog_8_method_4_code 12 = .ok (.iconst 1, 1) := by decide +kernel
theorem d_M_isTerm_13 : decode prog_8_method_4_code 13 = .ok (.goto 4, 3) := by decide +kernel
theorem d_M_isTerm_16 : decode prog_8_method_4_code 16 = .ok (.iconst 0, 1) := by decide +kernel
theorem d_M_isTerm_17 : decode prog_8_method_4_code 17 = .ok (.ireturn, 1) := by decide +kernel
theorem d_M_join_0 : decode prog_8_method_12_code 0 = .ok (.aload_n 0, 1) := by decide +kernel
theorem d_M_join_1 : decode prog_8_method_12_code 1 = .ok (.getfield 13, 3) := by decide +kernel
theorem d_M_join_4 : decode prog_8_method_12_code 4 = .ok (.iload_n 1, 1) := by decide +kernel
theorem d_M_join_5 : decode prog_8_method_12_code 5 = .ok (.aload_n 0, 1) := by decide +kernel
theorem d_M_join_6 : decode prog_8_method_12_code 6 = .ok (.getfield 13, 3) := by decide +kernel
theorem d_M_join_9 : decode prog_8_method_12_code 9 = .ok (.iload_n 2, 1) := by decide +kernel
theorem d_M_join_10 : decode prog_8_method_12_code 10 = .ok (.iaload, 1) := by decide +kernel
theorem d_M_join_11 : decode prog_8_method_12_code 11 = .ok (.iastore, 1) := by decide +kernel
theorem d_M_join_12 : decode prog_8_method_12_code 12 = .ok (.iconst (-1), 1) := by decide +kernel
theorem d_M_join_13 : decode prog_8_method_12_code 13 = .ok (.istore 5, 2) := by decide +kernel
theorem d_M_join_15 : decode prog_8_method_12_code 15 = .ok (.iload 5, 2) := by decide +kernel
theorem d_M_join_17 : decode prog_8_method_12_code 17 = .ok (.bipush 48, 2) := by decide +kernel
theorem d_M_join_19 : decode prog_8_method_12_code 19 = .ok (.if_icmp .ge 74, 3) := by decide +kernel
theorem d_M_join_22 : decode prog_8_method_12_code 22 = .ok (.aload_n 0, 1) := by decide +kernel
theorem d_M_join_23 : decode prog_8_method_12_code 23 = .ok (.iload_n 1, 1) := by decide +kernel
theorem d_M_join_24 : decode prog_8_method_12_code 24 = .ok (.iload 5, 2) := by decide +kernel
theorem d_M_join_26 : decode prog_8_method_12_code 26 = .ok (.iload 4, 2) := by decide +kernel
theorem d_M_join_28 : decode prog_8_method_12_code 28 = .ok (.ifCond .eq 31, 3) := by decide +kernel
theorem d_M_join_31 : decode prog_8_method_12_code 31 = .ok (.aload_n 0, 1) := by decide +kernel
theorem d_M_join_32 : decode prog_8_method_12_code 32 = .ok (.iload_n 2, 1) := by decide +kernel
theorem d_M_join_33 : decode prog_8_method_12_code 33 = .ok (.iload 5, 2) := by decide +kernel
theorem d_M_join_35 : decode prog_8_method_12_code 35 = .ok (.invokevirtual 82, 3) := by decide +kernel
theorem d_M_join_38 : decode prog_8_method_12_code 38 = .ok (.ifCond .ne 13, 3) := by decide +kernel
theorem d_M_join_41 : decode prog_8_method_12_code 41 = .ok (.aload_n 0, 1) := by decide +kernel
theorem d_M_join_42 : decode prog_8_method_12_code 42 = .ok (.iload_n 3, 1) := by decide +kernel
theorem d_M_join_43 : decode prog_8_method_12_code 43 = .ok (.iload 5, 2) := by decide +kernel
theorem d_M_join_45 : decode prog_8_method_12_code 45 = .ok (.invokevirtual 82, 3) := by decide +kernel
theorem d_M_join_48 : decode prog_8_method_12_code 48 = .ok (.ifCond .eq 7, 3) := by decide +kernel
theorem d_M_join_51 : decode prog_8_method_12_code 51 = .ok (.iconst 1, 1) := by decide +kernel
theorem d_M_join_52 : decode prog_8_method_12_code 52 = .ok (.goto 32, 3) := by decide +kernel
theorem d_M_join_55 : decode prog_8_method_12_code 55 = .ok (.iconst 0, 1) := by decide +kernel
theorem d_M_join_56 : decode prog_8_method_12_code 56 = .ok (.goto 28, 3) := by decide +kernel
theorem d_M_join_59 : decode prog_8_method_12_code 59 = .ok (.aload_n 0, 1) := by decide +kernel
theorem d_M_join_60 : decode prog_8_method_12_code 60 = .ok (.iload_n 2, 1) := by decide +kernel
theorem d_M_join_61 : decode prog_8_method_12_code 61 = .ok (.iload 5, 2) := by decide +kernel
theorem d_M_join_63 : decode prog_8_method_12_code 63 = .ok (.invokevirtual 82, 3) := by decide +kernel
theorem d_M_join_66 : decode prog_8_method_12_code 66 = .ok (.ifCond .eq 17, 3) := by decide +kernel
theorem d_M_join_69 : decode prog_8_method_12_code 69 = .ok (.aload_n 0, 1) := by decide +kernel
theorem d_M_join_70 : decode prog_8_method_12_code 70 = .ok (.iload_n 3, 1) := by decide +kernel
theorem d_M_join_71 : decode prog_8_method_12_code 71 = .ok (.iload 5, 2) := by decide +kernel
theorem d_M_join_73 : decode prog_8_method_12_code 73 = .ok (.invokevirtual 82, 3) := by decide +kernel
theorem d_M_join_76 : decode prog_8_method_12_code 76 = .ok (.ifCond .eq 7, 3) := by decide +kernel
theorem d_M_join_79 : decode prog_8_method_12_code 79 = .ok (.iconst 1, 1) := by decide +kernel
theorem d_M_join_80 : decode prog_8_method_12_code 80 = .ok (.goto 4, 3) := by decide +kernel
theorem d_M_join_83 : decode prog_8_method_12_code 83 = .ok (.iconst 0, 1) := by decide +kernel
theorem d_M_join_84 : decode prog_8_method_12_code 84 = .ok (.invokevirtual 78, 3) := by decide +kernel
theorem d_M_join_87 : decode prog_8_method_12_code 87 = .ok (.iinc 5 1, 3) := by decide +kernel
theorem d_M_join_90 : decode prog_8_method_12_code 90 = .ok (.goto (-75), 3) := by decide +kernel
theorem d_M_join_93 : decode prog_8_method_12_code 93 = .ok (.return_, 1) := by decide +kernel
theorem d_M_isSaid_0 : decode prog_8_method_7_code 0 = .ok (.aload_n 0, 1) := by decide +kernel
theorem d_M_isSaid_1 : decode prog_8_method_7_code 1 = .ok (.getfield 17, 3) := by decide +kernel
theorem d_M_isSaid_4 : decode prog_8_method_7_code 4 = .ok (.bipush 49, 2) := by decide +kernel
theorem d_M_isSaid_6 : decode prog_8_method_7_code 6 = .ok (.iload_n 1, 1) := by decide +kernel
theorem d_M_isSaid_7 : decode prog_8_method_7_code 7 = .ok (.imul, 1) := by decide +kernel
theorem d_M_isSaid_8 : decode prog_8_method_7_code 8 = .ok (.iload_n 2, 1) := by decide +kernel
theorem d_M_isSaid_9 : decode prog_8_method_7_code 9 = .ok (.iadd, 1) := by decide +kernel
theorem d_M_isSaid_10 : decode prog_8_method_7_code 10 = .ok (.iconst 1, 1) := by decide +kernel
theorem d_M_isSaid_11 : decode prog_8_method_7_code 11 = .ok (.iadd, 1) := by decide +kernel
theorem d_M_isSaid_12 : decode prog_8_method_7_code 12 = .ok (.baload, 1) := by decide +kernel
theorem d_M_isSaid_13 : decode prog_8_method_7_code 13 = .ok (.ireturn, 1) := by decide +kernel
theorem d_M_relate_0 : decode prog_8_method_21_code 0 = .ok (.aload_n 0, 1) := by decide +kernel
theorem d_M_relate_1 : decode prog_8_method_21_code 1 = .ok (.iconst 0, 1) := by decide +kernel
theorem d_M_relate_2 : decode prog_8_method_21_code 2 = .ok (.putfield 61, 3) := by decide +kernel
theorem d_M_relate_5 : decode prog_8_method_21_code 5 = .ok (.aload_n 0, 1) := by decide +kernel
theorem d_M_relate_6 : decode prog_8_method_21_code 6 = .ok (.iload_n 1, 1) := by decide +kernel
theorem d_M_relate_7 : decode prog_8_method_21_code 7 = .ok (.invokevirtual 100, 3) := by decide +kernel
theorem d_M_relate_10 : decode prog_8_method_21_code 10 = .ok (.ifCond .eq 11, 3) := by decide +kernel
theorem d_M_relate_13 : decode prog_8_method_21_code 13 = .ok (.aload_n 0, 1) := by decide +kernel
theorem d_M_relate_14 : decode prog_8_method_21_code 14 = .ok (.iload_n 2, 1) := by decide +kernel
theorem d_M_relate_15 : decode prog_8_method_21_code 15 = .ok (.invokevirtual 100, 3) := by decide +kernel
theorem d_M_relate_18 : decode prog_8_method_21_code 18 = .ok (.ifCond .ne 6, 3) := by decide +kernel
theorem d_M_relate_21 : decode prog_8_method_21_code 21 = .ok (.bipush (-2), 2) := by decide +kernel
theorem d_M_relate_23 : decode prog_8_method_21_code 23 = .ok (.ireturn, 1) := by decide +kernel
theorem d_M_relate_24 : decode prog_8_method_21_code 24 = .ok (.aload_n 0, 1) := by decide +kernel
theorem d_M_relate_25 : decode prog_8_method_21_code 25 = .ok (.iload_n 1, 1) := by decide +kernel
theorem d_M_relate_26 : decode prog_8_method_21_code 26 = .ok (.iload_n 1, 1) := by decide +kernel
theorem d_M_relate_27 : decode prog_8_method_21_code 27 = .ok (.invokevirtual 107, 3) := by decide +kernel
theorem d_M_relate_30 : decode prog_8_method_21_code 30 = .ok (.iconst (-1), 1) := by decide +kernel
theorem d_M_relate_31 : decode prog_8_method_21_code 31 = .ok (.if_icmp .ne 5, 3) := by decide +kernel
theorem d_M_relate_34 : decode prog_8_method_21_code 34 = .ok (.iconst (-1), 1) := by decide +kernel
theorem d_M_relate_35 : decode prog_8_method_21_code 35 = .ok (.ireturn, 1) := by decide +kernel
theorem d_M_relate_36 : decode prog_8_method_21_code 36 = .ok (.aload_n 0, 1) := by decide +kernel
theorem d_M_relate_37 : decode prog_8_method_21_code 37 = .ok (.getfield 13, 3) := by decide +kernel
theorem d_M_relate_40 : decode prog_8_method_21_code 40 = .ok (.iload_n 1, 1) := by decide +kernel
theorem d_M_relate_41 : decode prog_8_method_21_code 41 = .ok (.iaload, 1) := by decide +kernel
theorem d_M_relate_42 : decode prog_8_method_21_code 42 = .ok (.aload_n 0, 1) := by decide +kernel
theorem d_M_relate_43 : decode prog_8_method_21_code 43 = .ok (.getfield 13, 3) := by decide +kernel
theorem d_M_relate_46 : decode prog_8_method_21_code 46 = .ok (.iload_n 2, 1) := by decide +kernel
theorem d_M_relate_47 : decode prog_8_method_21_code 47 = .ok (.iaload, 1) := by decide +kernel
theorem d_M_relate_48 : decode prog_8_method_21_code 48 = .ok (.if_icmp .ne 12, 3) := by decide +kernel
theorem d_M_relate_51 : decode prog_8_method_21_code 51 = .ok (.aload_n 0, 1) := by decide +kernel
theorem d_M_relate_52 : decode prog_8_method_21_code 52 = .ok (.iload_n 1, 1) := by decide +kernel
theorem d_M_relate_53 : decode prog_8_method_21_code 53 = .ok (.iload_n 2, 1) := by decide +kernel
theorem d_M_relate_54 : decode prog_8_method_21_code 54 = .ok (.invokevirtual 107, 3) := by decide +kernel
theorem d_M_relate_57 : decode prog_8_method_21_code 57 = .ok (.goto 4, 3) := by decide +kernel
theorem d_M_relate_60 : decode prog_8_method_21_code 60 = .ok (.iconst 0, 1) := by decide +kernel
theorem d_M_relate_61 : decode prog_8_method_21_code 61 = .ok (.ireturn, 1) := by decide +kernel
theorem d_M_relation_0 : decode prog_8_method_20_code 0 = .ok (.iconst 1, 1) := by decide +kernel
theorem d_M_relation_1 : decode prog_8_method_20_code 1 = .ok (.istore_n 3, 1) := by decide +kernel
theorem d_M_relation_2 : decode prog_8_method_20_code 2 = .ok (.iconst 0, 1) := by decide +kernel
theorem d_M_relation_3 : decode prog_8_method_20_code 3 = .ok (.istore 4, 2) := by decide +kernel
theorem d_M_relation_5 : decode prog_8_method_20_code 5 = .ok (.iconst (-1), 1) := by decide +kernel
theorem d_M_relation_6 : decode prog_8_method_20_code 6 = .ok (.istore 5, 2) := by decide +kernel
theorem d_M_relation_8 : decode prog_8_method_20_code 8 = .ok (.iload 5, 2) := by decide +kernel
theorem d_M_relation_10 : decode prog_8_method_20_code 10 = .ok (.bipush 48, 2) := by decide +kernel
theorem d_M_relation_12 : decode prog_8_method_20_code 12 = .ok (.if_icmp .ge 71, 3) := by decide +kernel
theorem d_M_relation_15 : decode prog_8_method_20_code 15 = .ok (.iload_n 3, 1) := by decide +kernel
theorem d_M_relation_16 : decode prog_8_method_20_code 16 = .ok (.ifCond .eq 27, 3) := by decide +kernel
theorem d_M_relation_19 : decode prog_8_method_20_code 19 = .ok (.aload_n 0, 1) := by decide +kernel
theorem d_M_relation_20 : decode prog_8_method_20_code 20 = .ok (.iload_n 1, 1) := by decide +kernel
theorem d_M_relation_21 : decode prog_8_method_20_code 21 = .ok (.iload 5, 2) := by decide +kernel
theorem d_M_relation_23 : decode prog_8_method_20_code 23 = .ok (.invokevirtual 82, 3) := by decide +kernel
theorem d_M_relation_26 : decode prog_8_method_20_code 26 = .ok (.ifCond .eq 13, 3) := by decide +kernel
theorem d_M_relation_29 : decode prog_8_method_20_code 29 = .ok (.aload_n 0, 1) := by decide +kernel
theorem d_M_relation_30 : decode prog_8_method_20_code 30 = .ok (.iload_n 2, 1) := by decide +kernel
theorem d_M_relation_31 : decode prog_8_method_20_code 31 = .ok (.iload 5, 2) := by decide +kernel
theorem d_M_relation_33 : decode prog_8_method_20_code 33 = .ok (.invokevirtual 82, 3) := by decide +kernel
theorem d_M_relation_36 : decode prog_8_method_20_code 36 = .ok (.ifCond .eq 7, 3) := by decide +kernel
theorem d_M_relation_39 : decode prog_8_method_20_code 39 = .ok (.iconst 1, 1) := by decide +kernel
theorem d_M_relation_40 : decode prog_8_method_20_code 40 = .ok (.goto 4, 3) := by decide +kernel
theorem d_M_relation_43 : decode prog_8_method_20_code 43 = .ok (.iconst 0, 1) := by decide +kernel
theorem d_M_relation_44 : decode prog_8_method_20_code 44 = .ok (.istore_n 3, 1) := by decide +kernel
theorem d_M_relation_45 : decode prog_8_method_20_code 45 = .ok (.iload 4, 2) := by decide +kernel
theorem d_M_relation_47 : decode prog_8_method_20_code 47 = .ok (.ifCond .ne 23, 3) := by decide +kernel
theorem d_M_relation_50 : decode prog_8_method_20_code 50 = .ok (.aload_n 0, 1) := by decide +kernel
theorem d_M_relation_51 : decode prog_8_method_20_code 51 = .ok (.iload_n 1, 1) := by decide +kernel
theorem d_M_relation_52 : decode prog_8_method_20_code 52 = .ok (.iload 5, 2) := by decide +kernel
theorem d_M_relation_54 : decode prog_8_method_20_code 54 = .ok (.invokevirtual 82, 3) := by decide +kernel
theorem d_M_relation_57 : decode prog_8_method_20_code 57 = .ok (.ifCond .eq 17, 3) := by decide +kernel
theorem d_M_relation_60 : decode prog_8_method_20_code 60 = .ok (.aload_n 0, 1) := by decide +kernel
theorem d_M_relation_61 : decode prog_8_method_20_code 61 = .ok (.iload_n 2, 1) := by decide +kernel
theorem d_M_relation_62 : decode prog_8_method_20_code 62 = .ok (.iload 5, 2) := by decide +kernel
theorem d_M_relation_64 : decode prog_8_method_20_code 64 = .ok (.invokevirtual 82, 3) := by decide +kernel
theorem d_M_relation_67 : decode prog_8_method_20_code 67 = .ok (.ifCond .eq 7, 3) := by decide +kernel
theorem d_M_relation_70 : decode prog_8_method_20_code 70 = .ok (.iconst 1, 1) := by decide +kernel
theorem d_M_relation_71 : decode prog_8_method_20_code 71 = .ok (.goto 4, 3) := by decide +kernel
theorem d_M_relation_74 : decode prog_8_method_20_code 74 = .ok (.iconst 0, 1) := by decide +kernel
theorem d_M_relation_75 : decode prog_8_method_20_code 75 = .ok (.istore 4, 2) := by decide +kernel
theorem d_M_relation_77 : decode prog_8_method_20_code 77 = .ok (.iinc 5 1, 3) := by decide +kernel
theorem d_M_relation_80 : decode prog_8_method_20_code 80 = .ok (.goto (-72), 3) := by decide +kernel
theorem d_M_relation_83 : decode prog_8_method_20_code 83 = .ok (.iload 4, 2) := by decide +kernel
theorem d_M_relation_85 : decode prog_8_method_20_code 85 = .ok (.ifCond .ne 7, 3) := by decide +kernel
theorem d_M_relation_88 : decode prog_8_method_20_code 88 = .ok (.iconst (-1), 1) := by decide +kernel
theorem d_M_relation_89 : decode prog_8_method_20_code 89 = .ok (.goto 12, 3) := by decide +kernel
theorem d_M_relation_92 : decode prog_8_method_20_code 92 = .ok (.iload_n 3, 1) := by decide +kernel
theorem d_M_relation_93 : decode prog_8_method_20_code 93 = .ok (.ifCond .eq 7, 3) := by decide +kernel
theorem d_M_relation_96 : decode prog_8_method_20_code 96 = .ok (.iconst 1, 1) := by decide +kernel
theorem d_M_relation_97 : decode prog_8_method_20_code 97 = .ok (.goto 4, 3) := by decide +kernel
theorem d_M_relation_100 : decode prog_8_method_20_code 100 = .ok (.iconst 0, 1) := by decide +kernel
theorem d_M_relation_101 : decode prog_8_method_20_code 101 = .ok (.ireturn, 1) := by decide +kernel
theorem d_M_about_0 : decode prog_8_method_22_code 0 = .ok (.aload_n 0, 1) := by decide +kernel
theorem d_M_about_1 : decode prog_8_method_22_code 1 = .ok (.iconst 0, 1) := by decide +kernel
theorem d_M_about_2 : decode prog_8_method_22_code 2 = .ok (.putfield 61, 3) := by decide +kernel
theorem d_M_about_5 : decode prog_8_method_22_code 5 = .ok (.aload_n 0, 1) := by decide +kernel
theorem d_M_about_6 : decode prog_8_method_22_code 6 = .ok (.iload_n 1, 1) := by decide +kernel
theorem d_M_about_7 : decode prog_8_method_22_code 7 = .ok (.invokevirtual 100, 3) := by decide +kernel
theorem d_M_about_10 : decode prog_8_method_22_code 10 = .ok (.ifCond .eq 12, 3) := by decide +kernel
theorem d_M_about_13 : decode prog_8_method_22_code 13 = .ok (.aload_n 0, 1) := by decide +kernel
theorem d_M_about_14 : decode prog_8_method_22_code 14 = .ok (.iload_n 1, 1) := by decide +kernel
theorem d_M_about_15 : decode prog_8_method_22_code 15 = .ok (.iload_n 2, 1) := by decide +kernel
theorem d_M_about_16 : decode prog_8_method_22_code 16 = .ok (.invokevirtual 111, 3) := by decide +kernel
theorem d_M_about_19 : decode prog_8_method_22_code 19 = .ok (.goto 4, 3) := by decide +kernel
theorem d_M_about_22 : decode prog_8_method_22_code 22 = .ok (.iconst (-1), 1) := by decide +kernel
theorem d_M_about_23 : decode prog_8_method_22_code 23 = .ok (.ireturn, 1) := by decide +kernel
theorem d_M_aboutOf_0 : decode prog_8_method_17_code 0 = .ok (.iconst 0, 1) := by decide +kernel
theorem d_M_aboutOf_1 : decode prog_8_method_17_code 1 = .ok (.istore_n 3, 1) := by decide +kernel
theorem d_M_aboutOf_2 : decode prog_8_method_17_code 2 = .ok (.iconst 0, 1) := by decide +kernel
theorem d_M_aboutOf_3 : decode prog_8_method_17_code 3 = .ok (.istore 4, 2) := by decide +kernel
theorem d_M_aboutOf_5 : decode prog_8_method_17_code 5 = .ok (.iload 4, 2) := by decide +kernel
theorem d_M_aboutOf_7 : decode prog_8_method_17_code 7 = .ok (.bipush 48, 2) := by decide +kernel
theorem d_M_aboutOf_9 : decode prog_8_method_17_code 9 = .ok (.if_icmp .ge 27, 3) := by decide +kernel
theorem d_M_aboutOf_12 : decode prog_8_method_17_code 12 = .ok (.iload_n 3, 1) := by decide +kernel
theorem d_M_aboutOf_13 : decode prog_8_method_17_code 13 = .ok (.aload_n 0, 1) := by decide +kernel
theorem d_M_aboutOf_14 : decode prog_8_method_17_code 14 = .ok (.iload_n 1, 1) := by decide +kernel
theorem d_M_aboutOf_15 : decode prog_8_method_17_code 15 = .ok (.iload 4, 2) := by decide +kernel
theorem d_M_aboutOf_17 : decode prog_8_method_17_code 17 = .ok (.invokevirtual 90, 3) := by decide +kernel
theorem d_M_aboutOf_20 : decode prog_8_method_17_code 20 = .ok (.ifCond .eq 7, 3) := by decide +kernel
theorem d_M_aboutOf_23 : decode prog_8_method_17_code 23 = .ok (.iconst 1, 1) := by decide +kernel
theorem d_M_aboutOf_24 : decode prog_8_method_17_code 24 = .ok (.goto 4, 3) := by decide +kernel
theorem d_M_aboutOf_27 : decode prog_8_method_17_code 27 = .ok (.iconst 0, 1) := by decide +kernel
theorem d_M_aboutOf_28 : decode prog_8_method_17_code 28 = .ok (.iadd, 1) := by decide +kernel
theorem d_M_aboutOf_29 : decode prog_8_method_17_code 29 = .ok (.istore_n 3, 1) := by decide +kernel
theorem d_M_aboutOf_30 : decode prog_8_method_17_code 30 = .ok (.iinc 4 1, 3) := by decide +kernel
theorem d_M_aboutOf_33 : decode prog_8_method_17_code 33 = .ok (.goto (-28), 3) := by decide +kernel
theorem d_M_aboutOf_36 : decode prog_8_method_17_code 36 = .ok (.iload_n 2, 1) := by decide +kernel
theorem d_M_aboutOf_37 : decode prog_8_method_17_code 37 = .ok (.ifCond .ne 12, 3) := by decide +kernel
theorem d_M_aboutOf_40 : decode prog_8_method_17_code 40 = .ok (.aload_n 0, 1) := by decide +kernel
theorem d_M_aboutOf_41 : decode prog_8_method_17_code 41 = .ok (.getfield 13, 3) := by decide +kernel
theorem d_M_aboutOf_44 : decode prog_8_method_17_code 44 = .ok (.iload_n 1, 1) := by decide +kernel
theorem d_M_aboutOf_45 : decode prog_8_method_17_code 45 = .ok (.iaload, 1) := by decide +kernel
theorem d_M_aboutOf_46 : decode prog_8_method_17_code 46 = .ok (.goto 34, 3) := by decide +kernel
theorem d_M_aboutOf_49 : decode prog_8_method_17_code 49 = .ok (.iload_n 2, 1) := by decide +kernel
theorem d_M_aboutOf_50 : decode prog_8_method_17_code 50 = .ok (.iconst 1, 1) := by decide +kernel
theorem d_M_aboutOf_51 : decode prog_8_method_17_code 51 = .ok (.if_icmp .ne 19, 3) := by decide +kernel
theorem d_M_aboutOf_54 : decode prog_8_method_17_code 54 = .ok (.aload_n 0, 1) := by decide +kernel
theorem d_M_aboutOf_55 : decode prog_8_method_17_code 55 = .ok (.iload_n 1, 1) := by decide +kernel
theorem d_M_aboutOf_56 : decode prog_8_method_17_code 56 = .ok (.invokevirtual 86, 3) := by decide +kernel
theorem d_M_aboutOf_59 : decode prog_8_method_17_code 59 = .ok (.ifCond .eq 7, 3) := by decide +kernel
theorem d_M_aboutOf_62 : decode prog_8_method_17_code 62 = .ok (.iconst 1, 1) := by decide +kernel
theorem d_M_aboutOf_63 : decode prog_8_method_17_code 63 = .ok (.goto 17, 3) := by decide +kernel
theorem d_M_aboutOf_66 : decode prog_8_method_17_code 66 = .ok (.iconst 0, 1) := by decide +kernel
theorem d_M_aboutOf_67 : decode prog_8_method_17_code 67 = .ok (.goto 13, 3) := by decide +kernel
theorem d_M_aboutOf_70 : decode prog_8_method_17_code 70 = .ok (.iload_n 2, 1) := by decide +kernel
theorem d_M_aboutOf_71 : decode prog_8_method_17_code 71 = .ok (.iconst 2, 1) := by decide +kernel
theorem d_M_aboutOf_72 : decode prog_8_method_17_code 72 = .ok (.if_icmp .ne 7, 3) := by decide +kernel
theorem d_M_aboutOf_75 : decode prog_8_method_17_code 75 = .ok (.iload_n 3, 1) := by decide +kernel
theorem d_M_aboutOf_76 : decode prog_8_method_17_code 76 = .ok (.goto 4, 3) := by decide +kernel
theorem d_M_aboutOf_79 : decode prog_8_method_17_code 79 = .ok (.iconst (-1), 1) := by decide +kernel
theorem d_M_aboutOf_80 : decode prog_8_method_17_code 80 = .ok (.ireturn, 1) := by decide +kernel
theorem d_M_isListed_0 : decode prog_8_method_15_code 0 = .ok (.iload_n 2, 1) := by decide +kernel
theorem d_M_isListed_1 : decode prog_8_method_15_code 1 = .ok (.aload_n 0, 1) := by decide +kernel
theorem d_M_isListed_2 : decode prog_8_method_15_code 2 = .ok (.getfield 7, 3) := by decide +kernel
theorem d_M_isListed_5 : decode prog_8_method_15_code 5 = .ok (.aload_n 0, 1) := by decide +kernel
theorem d_M_isListed_6 : decode prog_8_method_15_code 6 = .ok (.getfield 13, 3) := by decide +kernel
theorem d_M_isListed_9 : decode prog_8_method_15_code 9 = .ok (.iload_n 1, 1) := by decide +kernel
theorem d_M_isListed_10 : decode prog_8_method_15_code 10 = .ok (.iaload, 1) := by decide +kernel
theorem d_M_isListed_11 : decode prog_8_method_15_code 11 = .ok (.iaload, 1) := by decide +kernel
theorem d_M_isListed_12 : decode prog_8_method_15_code 12 = .ok (.if_icmp .ge 21, 3) := by decide +kernel
theorem d_M_isListed_15 : decode prog_8_method_15_code 15 = .ok (.aload_n 0, 1) := by decide +kernel
theorem d_M_isListed_16 : decode prog_8_method_15_code 16 = .ok (.iload_n 1, 1) := by decide +kernel
theorem d_M_isListed_17 : decode prog_8_method_15_code 17 = .ok (.iload_n 2, 1) := by decide +kernel
theorem d_M_isListed_18 : decode prog_8_method_15_code 18 = .ok (.invokevirtual 82, 3) := by decide +kernel
theorem d_M_isListed_21 : decode prog_8_method_15_code 21 = .ok (.aload_n 0, 1) := by decide +kernel
theorem d_M_isListed_22 : decode prog_8_method_15_code 22 = .ok (.iload_n 1, 1) := by decide +kernel
theorem d_M_isListed_23 : decode prog_8_method_15_code 23 = .ok (.invokevirtual 86, 3) := by decide +kernel
theorem d_M_isListed_26 : decode prog_8_method_15_code 26 = .ok (.if_icmp .ne 7, 3) := by decide +kernel
theorem d_M_isListed_29 : decode prog_8_method_15_code 29 = .ok (.iconst 1, 1) := by decide +kernel
theorem d_M_isListed_30 : decode prog_8_method_15_code 30 = .ok (.goto 4, 3) := by decide +kernel
theorem d_M_isListed_33 : decode prog_8_method_15_code 33 = .ok (.iconst 0, 1) := by decide +kernel
theorem d_M_isListed_34 : decode prog_8_method_15_code 34 = .ok (.ireturn, 1) := by decide +kernel
theorem d_M_isWanted_0 : decode prog_8_method_14_code 0 = .ok (.aload_n 0, 1) := by decide +kernel
theorem d_M_isWanted_1 : decode prog_8_method_14_code 1 = .ok (.iload_n 1, 1) := by decide +kernel
theorem d_M_isWanted_2 : decode prog_8_method_14_code 2 = .ok (.iconst (-1), 1) := by decide +kernel
theorem d_M_isWanted_3 : decode prog_8_method_14_code 3 = .ok (.invokevirtual 82, 3) := by decide +kernel
theorem d_M_isWanted_6 : decode prog_8_method_14_code 6 = .ok (.ifCond .ne 7, 3) := by decide +kernel
theorem d_M_isWanted_9 : decode prog_8_method_14_code 9 = .ok (.iconst 1, 1) := by decide +kernel
theorem d_M_isWanted_10 : decode prog_8_method_14_code 10 = .ok (.goto 4, 3) := by decide +kernel
theorem d_M_isWanted_13 : decode prog_8_method_14_code 13 = .ok (.iconst 0, 1) := by decide +kernel
theorem d_M_isWanted_14 : decode prog_8_method_14_code 14 = .ok (.ireturn, 1) := by decide +kernel
theorem d_M_set_0 : decode prog_8_method_23_code 0 = .ok (.aload_n 0, 1) := by decide +kernel
theorem d_M_set_1 : decode prog_8_method_23_code 1 = .ok (.iconst 0, 1) := by decide +kernel
theorem d_M_set_2 : decode prog_8_method_23_code 2 = .ok (.putfield 61, 3) := by decide +kernel
theorem d_M_set_5 : decode prog_8_method_23_code 5 = .ok (.aload_n 0, 1) := by decide +kernel
theorem d_M_set_6 : decode prog_8_method_23_code 6 = .ok (.iload_n 1, 1) := by decide +kernel
theorem d_M_set_7 : decode prog_8_method_23_code 7 = .ok (.invokevirtual 100, 3) := by decide +kernel
theorem d_M_set_10 : decode prog_8_method_23_code 10 = .ok (.ifCond .eq 11, 3) := by decide +kernel
theorem d_M_set_13 : decode prog_8_method_23_code 13 = .ok (.aload_n 0, 1) := by decide +kernel
theorem d_M_set_14 : decode prog_8_method_23_code 14 = .ok (.iload_n 1, 1) := by decide +kernel
theorem d_M_set_15 : decode prog_8_method_23_code 15 = .ok (.invokevirtual 114, 3) := by decide +kernel
theorem d_M_set_18 : decode prog_8_method_23_code 18 = .ok (.goto 4, 3) := by decide +kernel
theorem d_M_set_21 : decode prog_8_method_23_code 21 = .ok (.lconst 0, 1) := by decide +kernel
theorem d_M_set_22 : decode prog_8_method_23_code 22 = .ok (.lreturn, 1) := by decide +kernel
theorem d_M_setOf_0 : decode prog_8_method_16_code 0 = .ok (.lconst 0, 1) := by decide +kernel
theorem d_M_setOf_1 : decode prog_8_method_16_code 1 = .ok (.lstore_n 2, 1) := by decide +kernel
theorem d_M_setOf_2 : decode prog_8_method_16_code 2 = .ok (.iconst 0, 1) := by decide +kernel
theorem d_M_setOf_3 : decode prog_8_method_16_code 3 = .ok (.istore 4, 2) := by decide +kernel
theorem d_M_setOf_5 : decode prog_8_method_16_code 5 = .ok (.iload 4, 2) := by decide +kernel
theorem d_M_setOf_7 : decode prog_8_method_16_code 7 = .ok (.bipush 48, 2) := by decide +kernel
theorem d_M_setOf_9 : decode prog_8_method_16_code 9 = .ok (.if_icmp .ge 30, 3) := by decide +kernel
theorem d_M_setOf_12 : decode prog_8_method_16_code 12 = .ok (.lload_n 2, 1) := by decide +kernel
theorem d_M_setOf_13 : decode prog_8_method_16_code 13 = .ok (.aload_n 0, 1) := by decide +kernel
theorem d_M_setOf_14 : decode prog_8_method_16_code 14 = .ok (.iload_n 1, 1) := by decide +kernel
theorem d_M_setOf_15 : decode prog_8_method_16_code 15 = .ok (.iload 4, 2) := by decide +kernel
theorem d_M_setOf_17 : decode prog_8_method_16_code 17 = .ok (.invokevirtual 90, 3) := by decide +kernel
theorem d_M_setOf_20 : decode prog_8_method_16_code 20 = .ok (.ifCond .eq 10, 3) := by decide +kernel
theorem d_M_setOf_23 : decode prog_8_method_16_code 23 = .ok (.lconst 1, 1) := by decide +kernel
theorem d_M_setOf_24 : decode prog_8_method_16_code 24 = .ok (.iload 4, 2) := by decide +kernel
theorem d_M_setOf_26 : decode prog_8_method_16_code 26 = .ok (.lshl, 1) := by decide +kernel
theorem d_M_setOf_27 : decode prog_8_method_16_code 27 = .ok (.goto 4, 3) := by decide +kernel
theorem d_M_setOf_30 : decode prog_8_method_16_code 30 = .ok (.lconst 0, 1) := by decide +kernel
theorem d_M_setOf_31 : decode prog_8_method_16_code 31 = .ok (.lor, 1) := by decide +kernel
theorem d_M_setOf_32 : decode prog_8_method_16_code 32 = .ok (.lstore_n 2, 1) := by decide +kernel
theorem d_M_setOf_33 : decode prog_8_method_16_code 33 = .ok (.iinc 4 1, 3) := by decide +kernel
theorem d_M_setOf_36 : decode prog_8_method_16_code 36 = .ok (.goto (-31), 3) := by decide +kernel
theorem d_M_setOf_39 : decode prog_8_method_16_code 39 = .ok (.lload_n 2, 1) := by decide +kernel
theorem d_M_setOf_40 : decode prog_8_method_16_code 40 = .ok (.lreturn, 1) := by decide +kernel
theorem d_M_needs_0 : decode prog_8_method_25_code 0 = .ok (.aload_n 0, 1) := by decide +kernel
theorem d_M_needs_1 : decode prog_8_method_25_code 1 = .ok (.iconst 0, 1) := by decide +kernel
theorem d_M_needs_2 : decode prog_8_method_25_code 2 = .ok (.putfield 61, 3) := by decide +kernel
theorem d_M_needs_5 : decode prog_8_method_25_code 5 = .ok (.aload_n 0, 1) := by decide +kernel
theorem d_M_needs_6 : decode prog_8_method_25_code 6 = .ok (.iload_n 1, 1) := by decide +kernel
theorem d_M_needs_7 : decode prog_8_method_25_code 7 = .ok (.invokevirtual 93, 3) := by decide +kernel
theorem d_M_needs_10 : decode prog_8_method_25_code 10 = .ok (.ifCond .eq 52, 3) := by decide +kernel
theorem d_M_needs_13 : decode prog_8_method_25_code 13 = .ok (.iload_n 2, 1) := by decide +kernel
theorem d_M_needs_14 : decode prog_8_method_25_code 14 = .ok (.ifCond .lt 48, 3) := by decide +kernel
theorem d_M_needs_17 : decode prog_8_method_25_code 17 = .ok (.iload_n 2, 1) := by decide +kernel
theorem d_M_needs_18 : decode prog_8_method_25_code 18 = .ok (.aload_n 0, 1) := by decide +kernel
theorem d_M_needs_19 : decode prog_8_method_25_code 19 = .ok (.getfield 7, 3) := by decide +kernel
theorem d_M_needs_22 : decode prog_8_method_25_code 22 = .ok (.iload_n 1, 1) := by decide +kernel
theorem d_M_needs_23 : decode prog_8_method_25_code 23 = .ok (.iaload, 1) := by decide +kernel
theorem d_M_needs_24 : decode prog_8_method_25_code 24 = .ok (.if_icmp .ge 38, 3) := by decide +kernel
theorem d_M_needs_27 : decode prog_8_method_25_code 27 = .ok (.aload_n 0, 1) := by decide +kernel
theorem d_M_needs_28 : decode prog_8_method_25_code 28 = .ok (.iload_n 3, 1) := by decide +kernel
theorem d_M_needs_29 : decode prog_8_method_25_code 29 = .ok (.invokevirtual 93, 3) := by decide +kernel
theorem d_M_needs_32 : decode prog_8_method_25_code 32 = .ok (.ifCond .eq 30, 3) := by decide +kernel
theorem d_M_needs_35 : decode prog_8_method_25_code 35 = .ok (.iload_n 3, 1) := by decide +kernel
theorem d_M_needs_36 : decode prog_8_method_25_code 36 = .ok (.iload_n 1, 1) := by decide +kernel
theorem d_M_needs_37 : decode prog_8_method_25_code 37 = .ok (.if_icmp .eq 25, 3) := by decide +kernel
theorem d_M_needs_40 : decode prog_8_method_25_code 40 = .ok (.iload 6, 2) := by decide +kernel
theorem d_M_needs_42 : decode prog_8_method_25_code 42 = .ok (.ifCond .lt 20, 3) := by decide +kernel
theorem d_M_needs_45 : decode prog_8_method_25_code 45 = .ok (.iload 6, 2) := by decide +kernel
theorem d_M_needs_47 : decode prog_8_method_25_code 47 = .ok (.bipush 8, 2) := by decide +kernel
theorem d_M_needs_49 : decode prog_8_method_25_code 49 = .ok (.if_icmp .ge 13, 3) := by decide +kernel
theorem d_M_needs_52 : decode prog_8_method_25_code 52 = .ok (.aload_n 0, 1) := by decide +kernel
theorem d_M_needs_53 : decode prog_8_method_25_code 53 = .ok (.getfield 118, 3) := by decide +kernel
theorem d_M_needs_56 : decode prog_8_method_25_code 56 = .ok (.sipush 400, 3) := by decide +kernel
theorem d_M_needs_59 : decode prog_8_method_25_code 59 = .ok (.if_icmp .ne 5, 3) := by decide +kernel
theorem d_M_needs_62 : decode prog_8_method_25_code 62 = .ok (.iconst 0, 1) := by decide +kernel
theorem d_M_needs_63 : decode prog_8_method_25_code 63 = .ok (.ireturn, 1) := by decide +kernel
theorem d_M_needs_64 : decode prog_8_method_25_code 64 = .ok (.aload_n 0, 1) := by decide +kernel
theorem d_M_needs_65 : decode prog_8_method_25_code 65 = .ok (.getfield 43, 3) := by decide +kernel
theorem d_M_needs_68 : decode prog_8_method_25_code 68 = .ok (.aload_n 0, 1) := by decide +kernel
theorem d_M_needs_69 : decode prog_8_method_25_code 69 = .ok (.getfield 118, 3) := by decide +kernel
theorem d_M_needs_72 : decode prog_8_method_25_code 72 = .ok (.iload_n 1, 1) := by decide +kernel
theorem d_M_needs_73 : decode prog_8_method_25_code 73 = .ok (.iastore, 1) := by decide +kernel
theorem d_M_needs_74 : decode prog_8_method_25_code 74 = .ok (.aload_n 0, 1) := by decide +kernel
theorem d_M_needs_75 : decode prog_8_method_25_code 75 = .ok (.getfield 46, 3) := by decide +kernel
theorem d_M_needs_78 : decode prog_8_method_25_code 78 = .ok (.aload_n 0, 1) := by decide +kernel
theorem d_M_needs_79 : decode prog_8_method_25_code 79 = .ok (.getfield 118, 3) := by decide +kernel
theorem d_M_needs_82 : decode prog_8_method_25_code 82 = .ok (.iload_n 2, 1) := by decide +kernel
theorem d_M_needs_83 : decode prog_8_method_25_code 83 = .ok (.iastore, 1) := by decide +kernel
theorem d_M_needs_84 : decode prog_8_method_25_code 84 = .ok (.aload_n 0, 1) := by decide +kernel
theorem d_M_needs_85 : decode prog_8_method_25_code 85 = .ok (.getfield 49, 3) := by decide +kernel
theorem d_M_needs_88 : decode prog_8_method_25_code 88 = .ok (.aload_n 0, 1) := by decide +kernel
theorem d_M_needs_89 : decode prog_8_method_25_code 89 = .ok (.getfield 118, 3) := by decide +kernel
theorem d_M_needs_92 : decode prog_8_method_25_code 92 = .ok (.iload_n 3, 1) := by decide +kernel
theorem d_M_needs_93 : decode prog_8_method_25_code 93 = .ok (.iastore, 1) := by decide +kernel
theorem d_M_needs_94 : decode prog_8_method_25_code 94 = .ok (.aload_n 0, 1) := by decide +kernel
theorem d_M_needs_95 : decode prog_8_method_25_code 95 = .ok (.getfield 55, 3) := by decide +kernel
theorem d_M_needs_98 : decode prog_8_method_25_code 98 = .ok (.aload_n 0, 1) := by decide +kernel
theorem d_M_needs_99 : decode prog_8_method_25_code 99 = .ok (.getfield 118, 3) := by decide +kernel
theorem d_M_needs_102 : decode prog_8_method_25_code 102 = .ok (.aload_n 0, 1) := by decide +kernel
theorem d_M_needs_103 : decode prog_8_method_25_code 103 = .ok (.iload_n 3, 1) := by decide +kernel
theorem d_M_needs_104 : decode prog_8_method_25_code 104 = .ok (.lload 4, 2) := by decide +kernel
theorem d_M_needs_106 : decode prog_8_method_25_code 106 = .ok (.invokevirtual 121, 3) := by decide +kernel
theorem d_M_needs_109 : decode prog_8_method_25_code 109 = .ok (.lastore, 1) := by decide +kernel
theorem d_M_needs_110 : decode prog_8_method_25_code 110 = .ok (.aload_n 0, 1) := by decide +kernel
theorem d_M_needs_111 : decode prog_8_method_25_code 111 = .ok (.getfield 52, 3) := by decide +kernel
theorem d_M_needs_114 : decode prog_8_method_25_code 114 = .ok (.aload_n 0, 1) := by decide +kernel
theorem d_M_needs_115 : decode prog_8_method_25_code 115 = .ok (.getfield 118, 3) := by decide +kernel
theorem d_M_needs_118 : decode prog_8_method_25_code 118 = .ok (.iload 6, 2) := by decide +kernel
theorem d_M_needs_120 : decode prog_8_method_25_code 120 = .ok (.iastore, 1) := by decide +kernel
theorem d_M_needs_121 : decode prog_8_method_25_code 121 = .ok (.aload_n 0, 1) := by decide +kernel
theorem d_M_needs_122 : decode prog_8_method_25_code 122 = .ok (.dup, 1) := by decide +kernel
theorem d_M_needs_123 : decode prog_8_method_25_code 123 = .ok (.getfield 118, 3) := by decide +kernel
theorem d_M_needs_126 : decode prog_8_method_25_code 126 = .ok (.iconst 1, 1) := by decide +kernel
theorem d_M_needs_127 : decode prog_8_method_25_code 127 = .ok (.iadd, 1) := by decide +kernel
theorem d_M_needs_128 : decode prog_8_method_25_code 128 = .ok (.putfield 118, 3) := by decide +kernel
theorem d_M_needs_131 : decode prog_8_method_25_code 131 = .ok (.iconst 1, 1) := by decide +kernel
theorem d_M_needs_132 : decode prog_8_method_25_code 132 = .ok (.ireturn, 1) := by decide +kernel
theorem d_M_there_0 : decode prog_8_method_24_code 0 = .ok (.lconst 0, 1) := by decide +kernel
theorem d_M_there_1 : decode prog_8_method_24_code 1 = .ok (.lstore 4, 2) := by decide +kernel
theorem d_M_there_3 : decode prog_8_method_24_code 3 = .ok (.iconst 0, 1) := by decide +kernel
theorem d_M_there_4 : decode prog_8_method_24_code 4 = .ok (.istore 6, 2) := by decide +kernel
theorem d_M_there_6 : decode prog_8_method_24_code 6 = .ok (.iload 6, 2) := by decide +kernel
theorem d_M_there_8 : decode prog_8_method_24_code 8 = .ok (.aload_n 0, 1) := by decide +kernel
theorem d_M_there_9 : decode prog_8_method_24_code 9 = .ok (.getfield 7, 3) := by decide +kernel
theorem d_M_there_12 : decode prog_8_method_24_code 12 = .ok (.iload_n 1, 1) := by decide +kernel
theorem d_M_there_13 : decode prog_8_method_24_code 13 = .ok (.iaload, 1) := by decide +kernel
theorem d_M_there_14 : decode prog_8_method_24_code 14 = .ok (.if_icmp .ge 20, 3) := by decide +kernel
theorem d_M_there_17 : decode prog_8_method_24_code 17 = .ok (.lload 4, 2) := by decide +kernel
theorem d_M_there_19 : decode prog_8_method_24_code 19 = .ok (.lload_n 2, 1) := by decide +kernel
theorem d_M_there_20 : decode prog_8_method_24_code 20 = .ok (.lconst 1, 1) := by decide +kernel
theorem d_M_there_21 : decode prog_8_method_24_code 21 = .ok (.iload 6, 2) := by decide +kernel
theorem d_M_there_23 : decode prog_8_method_24_code 23 = .ok (.lshl, 1) := by decide +kernel
theorem d_M_there_24 : decode prog_8_method_24_code 24 = .ok (.land, 1) := by decide +kernel
theorem d_M_there_25 : decode prog_8_method_24_code 25 = .ok (.lor, 1) := by decide +kernel
theorem d_M_there_26 : decode prog_8_method_24_code 26 = .ok (.lstore 4, 2) := by decide +kernel
theorem d_M_there_28 : decode prog_8_method_24_code 28 = .ok (.iinc 6 1, 3) := by decide +kernel
theorem d_M_there_31 : decode prog_8_method_24_code 31 = .ok (.goto (-25), 3) := by decide +kernel
theorem d_M_there_34 : decode prog_8_method_24_code 34 = .ok (.lload 4, 2) := by decide +kernel
theorem d_M_there_36 : decode prog_8_method_24_code 36 = .ok (.lreturn, 1) := by decide +kernel
theorem d_M_derive_0 : decode prog_8_method_32_code 0 = .ok (.aload_n 0, 1) := by decide +kernel
theorem d_M_derive_1 : decode prog_8_method_32_code 1 = .ok (.iconst 0, 1) := by decide +kernel
theorem d_M_derive_2 : decode prog_8_method_32_code 2 = .ok (.putfield 61, 3) := by decide +kernel
theorem d_M_derive_5 : decode prog_8_method_32_code 5 = .ok (.aload_n 0, 1) := by decide +kernel
theorem d_M_derive_6 : decode prog_8_method_32_code 6 = .ok (.iload_n 1, 1) := by decide +kernel
theorem d_M_derive_7 : decode prog_8_method_32_code 7 = .ok (.invokevirtual 93, 3) := by decide +kernel
theorem d_M_derive_10 : decode prog_8_method_32_code 10 = .ok (.ifCond .eq 17, 3) := by decide +kernel
theorem d_M_derive_13 : decode prog_8_method_32_code 13 = .ok (.iload_n 2, 1) := by decide +kernel
theorem d_M_derive_14 : decode prog_8_method_32_code 14 = .ok (.ifCond .lt 13, 3) := by decide +kernel
theorem d_M_derive_17 : decode prog_8_method_32_code 17 = .ok (.iload_n 2, 1) := by decide +kernel
theorem d_M_derive_18 : decode prog_8_method_32_code 18 = .ok (.aload_n 0, 1) := by decide +kernel
theorem d_M_derive_19 : decode prog_8_method_32_code 19 = .ok (.getfield 7, 3) := by decide +kernel
theorem d_M_derive_22 : decode prog_8_method_32_code 22 = .ok (.iload_n 1, 1) := by decide +kernel
theorem d_M_derive_23 : decode prog_8_method_32_code 23 = .ok (.iaload, 1) := by decide +kernel
theorem d_M_derive_24 : decode prog_8_method_32_code 24 = .ok (.if_icmp .lt 5, 3) := by decide +kernel
theorem d_M_derive_27 : decode prog_8_method_32_code 27 = .ok (.iconst (-1), 1) := by decide +kernel
theorem d_M_derive_28 : decode prog_8_method_32_code 28 = .ok (.ireturn, 1) := by decide +kernel
theorem d_M_derive_29 : decode prog_8_method_32_code 29 = .ok (.aload_n 0, 1) := by decide +kernel
theorem d_M_derive_30 : decode prog_8_method_32_code 30 = .ok (.getfield 71, 3) := by decide +kernel
theorem d_M_derive_33 : decode prog_8_method_32_code 33 = .ok (.istore_n 3, 1) := by decide +kernel
theorem d_M_derive_34 : decode prog_8_method_32_code 34 = .ok (.iconst 0, 1) := by decide +kernel
theorem d_M_derive_35 : decode prog_8_method_32_code 35 = .ok (.istore 4, 2) := by decide +kernel
theorem d_M_derive_37 : decode prog_8_method_32_code 37 = .ok (.iload 4, 2) := by decide +kernel
theorem d_M_derive_39 : decode prog_8_method_32_code 39 = .ok (.aload_n 0, 1) := by decide +kernel
theorem d_M_derive_40 : decode prog_8_method_32_code 40 = .ok (.getfield 118, 3) := by decide +kernel
theorem d_M_derive_43 : decode prog_8_method_32_code 43 = .ok (.if_icmp .ge 70, 3) := by decide +kernel
theorem d_M_derive_46 : decode prog_8_method_32_code 46 = .ok (.aload_n 0, 1) := by decide +kernel
theorem d_M_derive_47 : decode prog_8_method_32_code 47 = .ok (.getfield 43, 3) := by decide +kernel
theorem d_M_derive_50 : decode prog_8_method_32_code 50 = .ok (.iload 4, 2) := by decide +kernel
theorem d_M_derive_52 : decode prog_8_method_32_code 52 = .ok (.iaload, 1) := by decide +kernel
theorem d_M_derive_53 : decode prog_8_method_32_code 53 = .ok (.iload_n 1, 1) := by decide +kernel
theorem d_M_derive_54 : decode prog_8_method_32_code 54 = .ok (.if_icmp .ne 53, 3) := by decide +kernel
theorem d_M_derive_57 : decode prog_8_method_32_code 57 = .ok (.aload_n 0, 1) := by decide +kernel
theorem d_M_derive_58 : decode prog_8_method_32_code 58 = .ok (.getfield 46, 3) := by decide +kernel
theorem d_M_derive_61 : decode prog_8_method_32_code 61 = .ok (.iload 4, 2) := by decide +kernel
theorem d_M_derive_63 : decode prog_8_method_32_code 63 = .ok (.iaload, 1) := by decide +kernel
theorem d_M_derive_64 : decode prog_8_method_32_code 64 = .ok (.iload_n 2, 1) := by decide +kernel
theorem d_M_derive_65 : decode prog_8_method_32_code 65 = .ok (.if_icmp .ne 42, 3) := by decide +kernel
theorem d_M_derive_68 : decode prog_8_method_32_code 68 = .ok (.aload_n 0, 1) := by decide +kernel
theorem d_M_derive_69 : decode prog_8_method_32_code 69 = .ok (.iload 4, 2) := by decide +kernel
theorem d_M_derive_71 : decode prog_8_method_32_code 71 = .ok (.aload_n 0, 1) := by decide +kernel
theorem d_M_derive_72 : decode prog_8_method_32_code 72 = .ok (.getfield 71, 3) := by decide +kernel
theorem d_M_derive_75 : decode prog_8_method_32_code 75 = .ok (.invokevirtual 145, 3) := by decide +kernel
theorem d_M_derive_78 : decode prog_8_method_32_code 78 = .ok (.ifCond .eq 6, 3) := by decide +kernel
theorem d_M_derive_81 : decode prog_8_method_32_code 81 = .ok (.goto 26, 3) := by decide +kernel
theorem d_M_derive_84 : decode prog_8_method_32_code 84 = .ok (.aload_n 0, 1) := by decide +kernel
theorem d_M_derive_85 : decode prog_8_method_32_code 85 = .ok (.getfield 71, 3) := by decide +kernel
theorem d_M_derive_88 : decode prog_8_method_32_code 88 = .ok (.sipush 300, 3) := by decide +kernel
theorem d_M_derive_91 : decode prog_8_method_32_code 91 = .ok (.if_icmp .ne 10, 3) := by decide +kernel
theorem d_M_derive_94 : decode prog_8_method_32_code 94 = .ok (.aload_n 0, 1) := by decide +kernel
theorem d_M_derive_95 : decode prog_8_method_32_code 95 = .ok (.iload_n 3, 1) := by decide +kernel
theorem d_M_derive_96 : decode prog_8_method_32_code 96 = .ok (.putfield 71, 3) := by decide +kernel
theorem d_M_derive_99 : decode prog_8_method_32_code 99 = .ok (.iconst (-1), 1) := by decide +kernel
theorem d_M_derive_100 : decode prog_8_method_32_code 100 = .ok (.ireturn, 1) := by decide +kernel
theorem d_M_derive_101 : decode prog_8_method_32_code 101 = .ok (.aload_n 0, 1) := by decide +kernel
theorem d_M_derive_102 : decode prog_8_method_32_code 102 = .ok (.iload 4, 2) := by decide +kernel
theorem d_M_derive_104 : decode prog_8_method_32_code 104 = .ok (.invokevirtual 148, 3) := by decide +kernel
theorem d_M_derive_107 : decode prog_8_method_32_code 107 = .ok (.iinc 4 1, 3) := by decide +kernel
theorem d_M_derive_110 : decode prog_8_method_32_code 110 = .ok (.goto (-73), 3) := by decide +kernel
theorem d_M_derive_113 : decode prog_8_method_32_code 113 = .ok (.aload_n 0, 1) := by decide +kernel
theorem d_M_derive_114 : decode prog_8_method_32_code 114 = .ok (.getfield 71, 3) := by decide +kernel
theorem d_M_derive_117 : decode prog_8_method_32_code 117 = .ok (.iload_n 3, 1) := by decide +kernel
theorem d_M_derive_118 : decode prog_8_method_32_code 118 = .ok (.isub, 1) := by decide +kernel
theorem d_M_derive_119 : decode prog_8_method_32_code 119 = .ok (.ireturn, 1) := by decide +kernel
theorem d_M_isDerived_0 : decode prog_8_method_28_code 0 = .ok (.iconst 0, 1) := by decide +kernel
theorem d_M_isDerived_1 : decode prog_8_method_28_code 1 = .ok (.istore_n 3, 1) := by decide +kernel
theorem d_M_isDerived_2 : decode prog_8_method_28_code 2 = .ok (.iconst 0, 1) := by decide +kernel
theorem d_M_isDerived_3 : decode prog_8_method_28_code 3 = .ok (.istore 4, 2) := by decide +kernel
theorem d_M_isDerived_5 : decode prog_8_method_28_code 5 = .ok (.iload 4, 2) := by decide +kernel
theorem d_M_isDerived_7 : decode prog_8_method_28_code 7 = .ok (.iload_n 2, 1) := by decide +kernel
theorem d_M_isDerived_8 : decode prog_8_method_28_code 8 = .ok (.if_icmp .ge 116, 3) := by decide +kernel
theorem d_M_isDerived_11 : decode prog_8_method_28_code 11 = .ok (.iload_n 3, 1) := by decide +kernel
theorem d_M_isDerived_12 : decode prog_8_method_28_code 12 = .ok (.ifCond .ne 100, 3) := by decide +kernel
theorem d_M_isDerived_15 : decode prog_8_method_28_code 15 = .ok (.aload_n 0, 1) := by decide +kernel
theorem d_M_isDerived_16 : decode prog_8_method_28_code 16 = .ok (.getfield 24, 3) := by decide +kernel
theorem d_M_isDerived_19 : decode prog_8_method_28_code 19 = .ok (.iload 4, 2) := by decide +kernel
theorem d_M_isDerived_21 : decode prog_8_method_28_code 21 = .ok (.iaload, 1) := by decide +kernel
theorem d_M_isDerived_22 : decode prog_8_method_28_code 22 = .ok (.aload_n 0, 1) := by decide +kernel
theorem d_M_isDerived_23 : decode prog_8_method_28_code 23 = .ok (.getfield 43, 3) := by decide +kernel
theorem d_M_isDerived_26 : decode prog_8_method_28_code 26 = .ok (.iload_n 1, 1) := by decide +kernel
theorem d_M_isDerived_27 : decode prog_8_method_28_code 27 = .ok (.iaload, 1) := by decide +kernel
theorem d_M_isDerived_28 : decode prog_8_method_28_code 28 = .ok (.if_icmp .ne 88, 3) := by decide +kernel
theorem d_M_isDerived_31 : decode prog_8_method_28_code 31 = .ok (.aload_n 0, 1) := by decide +kernel
theorem d_M_isDerived_32 : decode prog_8_method_28_code 32 = .ok (.getfield 27, 3) := by decide +kernel
theorem d_M_isDerived_35 : decode prog_8_method_28_code 35 = .ok (.iload 4, 2) := by decide +kernel
theorem d_M_isDerived_37 : decode prog_8_method_28_code 37 = .ok (.iaload, 1) := by decide +kernel
theorem d_M_isDerived_38 : decode prog_8_method_28_code 38 = .ok (.aload_n 0, 1) := by decide +kernel
theorem d_M_isDerived_39 : decode prog_8_method_28_code 39 = .ok (.getfield 46, 3) := by decide +kernel
theorem d_M_isDerived_42 : decode prog_8_method_28_code 42 = .ok (.iload_n 1, 1) := by decide +kernel
theorem d_M_isDerived_43 : decode prog_8_method_28_code 43 = .ok (.iaload, 1) := by decide +kernel
theorem d_M_isDerived_44 : decode prog_8_method_28_code 44 = .ok (.if_icmp .gt 72, 3) := by decide +kernel
theorem d_M_isDerived_47 : decode prog_8_method_28_code 47 = .ok (.aload_n 0, 1) := by decide +kernel
theorem d_M_isDerived_48 : decode prog_8_method_28_code 48 = .ok (.getfield 30, 3) := by decide +kernel
theorem d_M_isDerived_51 : decode prog_8_method_28_code 51 = .ok (.iload 4, 2) := by decide +kernel
theorem d_M_isDerived_53 : decode prog_8_method_28_code 53 = .ok (.iaload, 1) := by decide +kernel
theorem d_M_isDerived_54 : decode prog_8_method_28_code 54 = .ok (.aload_n 0, 1) := by decide +kernel
theorem d_M_isDerived_55 : decode prog_8_method_28_code 55 = .ok (.getfield 46, 3) := by decide +kernel
theorem d_M_isDerived_58 : decode prog_8_method_28_code 58 = .ok (.iload_n 1, 1) := by decide +kernel
theorem d_M_isDerived_59 : decode prog_8_method_28_code 59 = .ok (.iaload, 1) := by decide +kernel
theorem d_M_isDerived_60 : decode prog_8_method_28_code 60 = .ok (.if_icmp .lt 56, 3) := by decide +kernel
theorem d_M_isDerived_63 : decode prog_8_method_28_code 63 = .ok (.aload_n 0, 1) := by decide +kernel
theorem d_M_isDerived_64 : decode prog_8_method_28_code 64 = .ok (.getfield 33, 3) := by decide +kernel
theorem d_M_isDerived_67 : decode prog_8_method_28_code 67 = .ok (.iload 4, 2) := by decide +kernel
theorem d_M_isDerived_69 : decode prog_8_method_28_code 69 = .ok (.iaload, 1) := by decide +kernel
theorem d_M_isDerived_70 : decode prog_8_method_28_code 70 = .ok (.aload_n 0, 1) := by decide +kernel
theorem d_M_isDerived_71 : decode prog_8_method_28_code 71 = .ok (.getfield 49, 3) := by decide +kernel
theorem d_M_isDerived_74 : decode prog_8_method_28_code 74 = .ok (.iload_n 1, 1) := by decide +kernel
theorem d_M_isDerived_75 : decode prog_8_method_28_code 75 = .ok (.iaload, 1) := by decide +kernel
theorem d_M_isDerived_76 : decode prog_8_method_28_code 76 = .ok (.if_icmp .ne 40, 3) := by decide +kernel
theorem d_M_isDerived_79 : decode prog_8_method_28_code 79 = .ok (.aload_n 0, 1) := by decide +kernel
theorem d_M_isDerived_80 : decode prog_8_method_28_code 80 = .ok (.getfield 39, 3) := by decide +kernel
theorem d_M_isDerived_83 : decode prog_8_method_28_code 83 = .ok (.iload 4, 2) := by decide +kernel
theorem d_M_isDerived_85 : decode prog_8_method_28_code 85 = .ok (.laload, 1) := by decide +kernel
theorem d_M_isDerived_86 : decode prog_8_method_28_code 86 = .ok (.aload_n 0, 1) := by decide +kernel
theorem d_M_isDerived_87 : decode prog_8_method_28_code 87 = .ok (.getfield 55, 3) := by decide +kernel
theorem d_M_isDerived_90 : decode prog_8_method_28_code 90 = .ok (.iload_n 1, 1) := by decide +kernel
theorem d_M_isDerived_91 : decode prog_8_method_28_code 91 = .ok (.laload, 1) := by decide +kernel
theorem d_M_isDerived_92 : decode prog_8_method_28_code 92 = .ok (.lcmp, 1) := by decide +kernel
theorem d_M_isDerived_93 : decode prog_8_method_28_code 93 = .ok (.ifCond .ne 23, 3) := by decide +kernel
theorem d_M_isDerived_96 : decode prog_8_method_28_code 96 = .ok (.aload_n 0, 1) := by decide +kernel
theorem d_M_isDerived_97 : decode prog_8_method_28_code 97 = .ok (.getfield 36, 3) := by decide +kernel
theorem d_M_isDerived_100 : decode prog_8_method_28_code 100 = .ok (.iload 4, 2) := by decide +kernel
theorem d_M_isDerived_102 : decode prog_8_method_28_code 102 = .ok (.iaload, 1) := by decide +kernel
theorem d_M_isDerived_103 : decode prog_8_method_28_code 103 = .ok (.aload_n 0, 1) := by decide +kernel
theorem d_M_isDerived_104 : decode prog_8_method_28_code 104 = .ok (.getfield 52, 3) := by decide +kernel
theorem d_M_isDerived_107 : decode prog_8_method_28_code 107 = .ok (.iload_n 1, 1) := by decide +kernel
theorem d_M_isDerived_108 : decode prog_8_method_28_code 108 = .ok (.iaload, 1) := by decide +kernel
theorem d_M_isDerived_109 : decode prog_8_method_28_code 109 = .ok (.if_icmp .ne 7, 3) := by decide +kernel
theorem d_M_isDerived_112 : decode prog_8_method_28_code 112 = .ok (.iconst 1, 1) := by decide +kernel
theorem d_M_isDerived_113 : decode prog_8_method_28_code 113 = .ok (.goto 4, 3) := by decide +kernel
theorem d_M_isDerived_116 : decode prog_8_method_28_code 116 = .ok (.iconst 0, 1) := by decide +kernel
theorem d_M_isDerived_117 : decode prog_8_method_28_code 117 = .ok (.istore_n 3, 1) := by decide +kernel
theorem d_M_isDerived_118 : decode prog_8_method_28_code 118 = .ok (.iinc 4 1, 3) := by decide +kernel
theorem d_M_isDerived_121 : decode prog_8_method_28_code 121 = .ok (.goto (-116), 3) := by decide +kernel
theorem d_M_isDerived_124 : decode prog_8_method_28_code 124 = .ok (.iload_n 3, 1) := by decide +kernel
theorem d_M_isDerived_125 : decode prog_8_method_28_code 125 = .ok (.ireturn, 1) := by decide +kernel
theorem d_M_deriveRow_0 : decode prog_8_method_31_code 0 = .ok (.aload_n 0, 1) := by decide +kernel
theorem d_M_deriveRow_1 : decode prog_8_method_31_code 1 = .ok (.invokevirtual 136, 3) := by decide +kernel
theorem d_M_deriveRow_4 : decode prog_8_method_31_code 4 = .ok (.aload_n 0, 1) := by decide +kernel
theorem d_M_deriveRow_5 : decode prog_8_method_31_code 5 = .ok (.getfield 46, 3) := by decide +kernel
theorem d_M_deriveRow_8 : decode prog_8_method_31_code 8 = .ok (.iload_n 1, 1) := by decide +kernel
theorem d_M_deriveRow_9 : decode prog_8_method_31_code 9 = .ok (.iaload, 1) := by decide +kernel
theorem d_M_deriveRow_10 : decode prog_8_method_31_code 10 = .ok (.istore_n 2, 1) := by decide +kernel
theorem d_M_deriveRow_11 : decode prog_8_method_31_code 11 = .ok (.aload_n 0, 1) := by decide +kernel
theorem d_M_deriveRow_12 : decode prog_8_method_31_code 12 = .ok (.getfield 46, 3) := by decide +kernel
theorem d_M_deriveRow_15 : decode prog_8_method_31_code 15 = .ok (.iload_n 1, 1) := by decide +kernel
theorem d_M_deriveRow_16 : decode prog_8_method_31_code 16 = .ok (.iaload, 1) := by decide +kernel
theorem d_M_deriveRow_17 : decode prog_8_method_31_code 17 = .ok (.istore_n 3, 1) := by decide +kernel
theorem d_M_deriveRow_18 : decode prog_8_method_31_code 18 = .ok (.iload_n 2, 1) := by decide +kernel
theorem d_M_deriveRow_19 : decode prog_8_method_31_code 19 = .ok (.ifCond .le 20, 3) := by decide +kernel
theorem d_M_deriveRow_22 : decode prog_8_method_31_code 22 = .ok (.aload_n 0, 1) := by decide +kernel
theorem d_M_deriveRow_23 : decode prog_8_method_31_code 23 = .ok (.iload_n 2, 1) := by decide +kernel
theorem d_M_deriveRow_24 : decode prog_8_method_31_code 24 = .ok (.iconst 1, 1) := by decide +kernel
theorem d_M_deriveRow_25 : decode prog_8_method_31_code 25 = .ok (.isub, 1) := by decide +kernel
theorem d_M_deriveRow_26 : decode prog_8_method_31_code 26 = .ok (.iload_n 1, 1) := by decide +kernel
theorem d_M_deriveRow_27 : decode prog_8_method_31_code 27 = .ok (.invokevirtual 139, 3) := by decide +kernel
theorem d_M_deriveRow_30 : decode prog_8_method_31_code 30 = .ok (.ifCond .eq 9, 3) := by decide +kernel
theorem d_M_deriveRow_33 : decode prog_8_method_31_code 33 = .ok (.iinc 2 (-1), 3) := by decide +kernel
theorem d_M_deriveRow_36 : decode prog_8_method_31_code 36 = .ok (.goto (-18), 3) := by decide +kernel
theorem d_M_deriveRow_39 : decode prog_8_method_31_code 39 = .ok (.aload_n 0, 1) := by decide +kernel
theorem d_M_deriveRow_40 : decode prog_8_method_31_code 40 = .ok (.iload_n 3, 1) := by decide +kernel
theorem d_M_deriveRow_41 : decode prog_8_method_31_code 41 = .ok (.iconst 1, 1) := by decide +kernel
theorem d_M_deriveRow_42 : decode prog_8_method_31_code 42 = .ok (.iadd, 1) := by decide +kernel
theorem d_M_deriveRow_43 : decode prog_8_method_31_code 43 = .ok (.iload_n 1, 1) := by decide +kernel
theorem d_M_deriveRow_44 : decode prog_8_method_31_code 44 = .ok (.invokevirtual 139, 3) := by decide +kernel
theorem d_M_deriveRow_47 : decode prog_8_method_31_code 47 = .ok (.ifCond .eq 9, 3) := by decide +kernel
theorem d_M_deriveRow_50 : decode prog_8_method_31_code 50 = .ok (.iinc 3 1, 3) := by decide +kernel
theorem d_M_deriveRow_53 : decode prog_8_method_31_code 53 = .ok (.goto (-14), 3) := by decide +kernel
theorem d_M_deriveRow_56 : decode prog_8_method_31_code 56 = .ok (.aload_n 0, 1) := by decide +kernel
theorem d_M_deriveRow_57 : decode prog_8_method_31_code 57 = .ok (.getfield 24, 3) := by decide +kernel
theorem d_M_deriveRow_60 : decode prog_8_method_31_code 60 = .ok (.aload_n 0, 1) := by decide +kernel
theorem d_M_deriveRow_61 : decode prog_8_method_31_code 61 = .ok (.getfield 71, 3) := by decide +kernel
theorem d_M_deriveRow_64 : decode prog_8_method_31_code 64 = .ok (.aload_n 0, 1) := by decide +kernel
theorem d_M_deriveRow_65 : decode prog_8_method_31_code 65 = .ok (.getfield 43, 3) := by decide +kernel
theorem d_M_deriveRow_68 : decode prog_8_method_31_code 68 = .ok (.iload_n 1, 1) := by decide +kernel
theorem d_M_deriveRow_69 : decode prog_8_method_31_code 69 = .ok (.iaload, 1) := by decide +kernel
theorem d_M_deriveRow_70 : decode prog_8_method_31_code 70 = .ok (.iastore, 1) := by decide +kernel
theorem d_M_deriveRow_71 : decode prog_8_method_31_code 71 = .ok (.aload_n 0, 1) := by decide +kernel
theorem d_M_deriveRow_72 : decode prog_8_method_31_code 72 = .ok (.getfield 27, 3) := by decide +kernel
theorem d_M_deriveRow_75 : decode prog_8_method_31_code 75 = .ok (.aload_n 0, 1) := by decide +kernel
theorem d_M_deriveRow_76 : decode prog_8_method_31_code 76 = .ok (.getfield 71, 3) := by decide +kernel
theorem d_M_deriveRow_79 : decode prog_8_method_31_code 79 = .ok (.iload_n 2, 1) := by decide +kernel
theorem d_M_deriveRow_80 : decode prog_8_method_31_code 80 = .ok (.iastore, 1) := by decide +kernel
theorem d_M_deriveRow_81 : decode prog_8_method_31_code 81 = .ok (.aload_n 0, 1) := by decide +kernel
theorem d_M_deriveRow_82 : decode prog_8_method_31_code 82 = .ok (.getfield 30, 3) := by decide +kernel
theorem d_M_deriveRow_85 : decode prog_8_method_31_code 85 = .ok (.aload_n 0, 1) := by decide +kernel
theorem d_M_deriveRow_86 : decode prog_8_method_31_code 86 = .ok (.getfield 71, 3) := by decide +kernel
theorem d_M_deriveRow_89 : decode prog_8_method_31_code 89 = .ok (.iload_n 3, 1) := by decide +kernel
theorem d_M_deriveRow_90 : decode prog_8_method_31_code 90 = .ok (.iastore, 1) := by decide +kernel
theorem d_M_deriveRow_91 : decode prog_8_method_31_code 91 = .ok (.aload_n 0, 1) := by decide +kernel
theorem d_M_deriveRow_92 : decode prog_8_method_31_code 92 = .ok (.getfield 33, 3) := by decide +kernel
theorem d_M_deriveRow_95 : decode prog_8_method_31_code 95 = .ok (.aload_n 0, 1) := by decide +kernel
theorem d_M_deriveRow_96 : decode prog_8_method_31_code 96 = .ok (.getfield 71, 3) := by decide +kernel
theorem d_M_deriveRow_99 : decode prog_8_method_31_code 99 = .ok (.aload_n 0, 1) := by decide +kernel
theorem d_M_deriveRow_100 : decode prog_8_method_31_code 100 = .ok (.getfield 49, 3) := by decide +kernel
theorem d_M_deriveRow_103 : decode prog_8_method_31_code 103 = .ok (.iload_n 1, 1) := by decide +kernel
theorem d_M_deriveRow_104 : decode prog_8_method_31_code 104 = .ok (.iaload, 1) := by decide +kernel
theorem d_M_deriveRow_105 : decode prog_8_method_31_code 105 = .ok (.iastore, 1) := by decide +kernel
theorem d_M_deriveRow_106 : decode prog_8_method_31_code 106 = .ok (.aload_n 0, 1) := by decide +kernel
theorem d_M_deriveRow_107 : decode prog_8_method_31_code 107 = .ok (.getfield 39, 3) := by decide +kernel
theorem d_M_deriveRow_110 : decode prog_8_method_31_code 110 = .ok (.aload_n 0, 1) := by decide +kernel
theorem d_M_deriveRow_111 : decode prog_8_method_31_code 111 = .ok (.getfield 71, 3) := by decide +kernel
theorem d_M_deriveRow_114 : decode prog_8_method_31_code 114 = .ok (.aload_n 0, 1) := by decide +kernel
theorem d_M_deriveRow_115 : decode prog_8_method_31_code 115 = .ok (.getfield 55, 3) := by decide +kernel
theorem d_M_deriveRow_118 : decode prog_8_method_31_code 118 = .ok (.iload_n 1, 1) := by decide +kernel
theorem d_M_deriveRow_119 : decode prog_8_method_31_code 119 = .ok (.laload, 1) := by decide +kernel
theorem d_M_deriveRow_120 : decode prog_8_method_31_code 120 = .ok (.lastore, 1) := by decide +kernel
theorem d_M_deriveRow_121 : decode prog_8_method_31_code 121 = .ok (.aload_n 0, 1) := by decide +kernel
theorem d_M_deriveRow_122 : decode prog_8_method_31_code 122 = .ok (.getfield 36, 3) := by decide +kernel
theorem d_M_deriveRow_125 : decode prog_8_method_31_code 125 = .ok (.aload_n 0, 1) := by decide +kernel
theorem d_M_deriveRow_126 : decode prog_8_method_31_code 126 = .ok (.getfield 71, 3) := by decide +kernel
theorem d_M_deriveRow_129 : decode prog_8_method_31_code 129 = .ok (.aload_n 0, 1) := by decide +kernel
theorem d_M_deriveRow_130 : decode prog_8_method_31_code 130 = .ok (.getfield 52, 3) := by decide +kernel
theorem d_M_deriveRow_133 : decode prog_8_method_31_code 133 = .ok (.iload_n 1, 1) := by decide +kernel
theorem d_M_deriveRow_134 : decode prog_8_method_31_code 134 = .ok (.iaload, 1) := by decide +kernel
theorem d_M_deriveRow_135 : decode prog_8_method_31_code 135 = .ok (.iastore, 1) := by decide +kernel
theorem d_M_deriveRow_136 : decode prog_8_method_31_code 136 = .ok (.aload_n 0, 1) := by decide +kernel
theorem d_M_deriveRow_137 : decode prog_8_method_31_code 137 = .ok (.sipush 5416, 3) := by decide +kernel
theorem d_M_deriveRow_140 : decode prog_8_method_31_code 140 = .ok (.aload_n 0, 1) := by decide +kernel
theorem d_M_deriveRow_141 : decode prog_8_method_31_code 141 = .ok (.getfield 43, 3) := by decide +kernel
theorem d_M_deriveRow_144 : decode prog_8_method_31_code 144 = .ok (.iload_n 1, 1) := by decide +kernel
theorem d_M_deriveRow_145 : decode prog_8_method_31_code 145 = .ok (.iaload, 1) := by decide +kernel
theorem d_M_deriveRow_146 : decode prog_8_method_31_code 146 = .ok (.lconst 1, 1) := by decide +kernel
theorem d_M_deriveRow_147 : decode prog_8_method_31_code 147 = .ok (.iload_n 3, 1) := by decide +kernel
theorem d_M_deriveRow_148 : decode prog_8_method_31_code 148 = .ok (.iconst 1, 1) := by decide +kernel
theorem d_M_deriveRow_149 : decode prog_8_method_31_code 149 = .ok (.iadd, 1) := by decide +kernel
theorem d_M_deriveRow_150 : decode prog_8_method_31_code 150 = .ok (.lshl, 1) := by decide +kernel
theorem d_M_deriveRow_151 : decode prog_8_method_31_code 151 = .ok (.lconst 1, 1) := by decide +kernel
theorem d_M_deriveRow_152 : decode prog_8_method_31_code 152 = .ok (.iload_n 2, 1) := by decide +kernel
theorem d_M_deriveRow_153 : decode prog_8_method_31_code 153 = .ok (.lshl, 1) := by decide +kernel
theorem d_M_deriveRow_154 : decode prog_8_method_31_code 154 = .ok (.lsub, 1) := by decide +kernel
theorem d_M_deriveRow_155 : decode prog_8_method_31_code 155 = .ok (.iconst 1, 1) := by decide +kernel
theorem d_M_deriveRow_156 : decode prog_8_method_31_code 156 = .ok (.invokevirtual 96, 3) := by decide +kernel
theorem d_M_deriveRow_159 : decode prog_8_method_31_code 159 = .ok (.aload_n 0, 1) := by decide +kernel
theorem d_M_deriveRow_160 : decode prog_8_method_31_code 160 = .ok (.sipush 5416, 3) := by decide +kernel
theorem d_M_deriveRow_163 : decode prog_8_method_31_code 163 = .ok (.invokevirtual 142, 3) := by decide +kernel
theorem d_M_deriveRow_166 : decode prog_8_method_31_code 166 = .ok (.aload_n 0, 1) := by decide +kernel
theorem d_M_deriveRow_167 : decode prog_8_method_31_code 167 = .ok (.sipush 5416, 3) := by decide +kernel
theorem d_M_deriveRow_170 : decode prog_8_method_31_code 170 = .ok (.aload_n 0, 1) := by decide +kernel
theorem d_M_deriveRow_171 : decode prog_8_method_31_code 171 = .ok (.getfield 49, 3) := by decide +kernel
theorem d_M_deriveRow_174 : decode prog_8_method_31_code 174 = .ok (.iload_n 1, 1) := by decide +kernel
theorem d_M_deriveRow_175 : decode prog_8_method_31_code 175 = .ok (.iaload, 1) := by decide +kernel
theorem d_M_deriveRow_176 : decode prog_8_method_31_code 176 = .ok (.aload_n 0, 1) := by decide +kernel
theorem d_M_deriveRow_177 : decode prog_8_method_31_code 177 = .ok (.getfield 55, 3) := by decide +kernel
theorem d_M_deriveRow_180 : decode prog_8_method_31_code 180 = .ok (.iload_n 1, 1) := by decide +kernel
theorem d_M_deriveRow_181 : decode prog_8_method_31_code 181 = .ok (.laload, 1) := by decide +kernel
theorem d_M_deriveRow_182 : decode prog_8_method_31_code 182 = .ok (.iconst 0, 1) := by decide +kernel
theorem d_M_deriveRow_183 : decode prog_8_method_31_code 183 = .ok (.invokevirtual 96, 3) := by decide +kernel
theorem d_M_deriveRow_186 : decode prog_8_method_31_code 186 = .ok (.aload_n 0, 1) := by decide +kernel
theorem d_M_deriveRow_187 : decode prog_8_method_31_code 187 = .ok (.sipush 5416, 3) := by decide +kernel
theorem d_M_deriveRow_190 : decode prog_8_method_31_code 190 = .ok (.invokevirtual 142, 3) := by decide +kernel
theorem d_M_deriveRow_193 : decode prog_8_method_31_code 193 = .ok (.aload_n 0, 1) := by decide +kernel
theorem d_M_deriveRow_194 : decode prog_8_method_31_code 194 = .ok (.dup, 1) := by decide +kernel
theorem d_M_deriveRow_195 : decode prog_8_method_31_code 195 = .ok (.getfield 71, 3) := by decide +kernel
theorem d_M_deriveRow_198 : decode prog_8_method_31_code 198 = .ok (.iconst 1, 1) := by decide +kernel
theorem d_M_deriveRow_199 : decode prog_8_method_31_code 199 = .ok (.iadd, 1) := by decide +kernel
theorem d_M_deriveRow_200 : decode prog_8_method_31_code 200 = .ok (.putfield 71, 3) := by decide +kernel
