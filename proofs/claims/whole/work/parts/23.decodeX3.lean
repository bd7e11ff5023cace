theorem dX3_init_0 : decode cX3_init 0 = .ok (.aload_n 0, 1) := by decide +kernel
theorem dX3_init_1 : decode cX3_init 1 = .ok (.invokespecial 3, 3) := by decide +kernel
theorem dX3_init_4 : decode cX3_init 4 = .ok (.aload_n 0, 1) := by decide +kernel
theorem dX3_init_5 : decode cX3_init 5 = .ok (.sipush 11760, 3) := by decide +kernel
theorem dX3_init_8 : decode cX3_init 8 = .ok (.newarray .int, 2) := by decide +kernel
theorem dX3_init_10 : decode cX3_init 10 = .ok (.putfield 9, 3) := by decide +kernel
theorem dX3_init_13 : decode cX3_init 13 = .ok (.aload_n 0, 1) := by decide +kernel
theorem dX3_init_14 : decode cX3_init 14 = .ok (.iconst 0, 1) := by decide +kernel
theorem dX3_init_15 : decode cX3_init 15 = .ok (.putfield 13, 3) := by decide +kernel
theorem dX3_init_18 : decode cX3_init 18 = .ok (.aload_n 0, 1) := by decide +kernel
theorem dX3_init_19 : decode cX3_init 19 = .ok (.iconst 0, 1) := by decide +kernel
theorem dX3_init_20 : decode cX3_init 20 = .ok (.putfield 17, 3) := by decide +kernel
theorem dX3_init_23 : decode cX3_init 23 = .ok (.aload_n 0, 1) := by decide +kernel
theorem dX3_init_24 : decode cX3_init 24 = .ok (.new 20, 3) := by decide +kernel
theorem dX3_init_27 : decode cX3_init 27 = .ok (.dup, 1) := by decide +kernel
theorem dX3_init_28 : decode cX3_init 28 = .ok (.invokespecial 22, 3) := by decide +kernel
theorem dX3_init_31 : decode cX3_init 31 = .ok (.putfield 23, 3) := by decide +kernel
theorem dX3_init_34 : decode cX3_init 34 = .ok (.aload_n 0, 1) := by decide +kernel
theorem dX3_init_35 : decode cX3_init 35 = .ok (.new 20, 3) := by decide +kernel
theorem dX3_init_38 : decode cX3_init 38 = .ok (.dup, 1) := by decide +kernel
theorem dX3_init_39 : decode cX3_init 39 = .ok (.invokespecial 22, 3) := by decide +kernel
theorem dX3_init_42 : decode cX3_init 42 = .ok (.putfield 27, 3) := by decide +kernel
theorem dX3_init_45 : decode cX3_init 45 = .ok (.aload_n 0, 1) := by decide +kernel
theorem dX3_init_46 : decode cX3_init 46 = .ok (.new 30, 3) := by decide +kernel
theorem dX3_init_49 : decode cX3_init 49 = .ok (.dup, 1) := by decide +kernel
theorem dX3_init_50 : decode cX3_init 50 = .ok (.invokespecial 32, 3) := by decide +kernel
theorem dX3_init_53 : decode cX3_init 53 = .ok (.putfield 33, 3) := by decide +kernel
theorem dX3_init_56 : decode cX3_init 56 = .ok (.aload_n 0, 1) := by decide +kernel
theorem dX3_init_57 : decode cX3_init 57 = .ok (.new 30, 3) := by decide +kernel
theorem dX3_init_60 : decode cX3_init 60 = .ok (.dup, 1) := by decide +kernel
theorem dX3_init_61 : decode cX3_init 61 = .ok (.invokespecial 32, 3) := by decide +kernel
theorem dX3_init_64 : decode cX3_init 64 = .ok (.putfield 37, 3) := by decide +kernel
theorem dX3_init_67 : decode cX3_init 67 = .ok (.aload_n 0, 1) := by decide +kernel
theorem dX3_init_68 : decode cX3_init 68 = .ok (.new 30, 3) := by decide +kernel
theorem dX3_init_71 : decode cX3_init 71 = .ok (.dup, 1) := by decide +kernel
theorem dX3_init_72 : decode cX3_init 72 = .ok (.invokespecial 32, 3) := by decide +kernel
theorem dX3_init_75 : decode cX3_init 75 = .ok (.putfield 40, 3) := by decide +kernel
theorem dX3_init_78 : decode cX3_init 78 = .ok (.aload_n 0, 1) := by decide +kernel
theorem dX3_init_79 : decode cX3_init 79 = .ok (.new 30, 3) := by decide +kernel
theorem dX3_init_82 : decode cX3_init 82 = .ok (.dup, 1) := by decide +kernel
theorem dX3_init_83 : decode cX3_init 83 = .ok (.invokespecial 32, 3) := by decide +kernel
theorem dX3_init_86 : decode cX3_init 86 = .ok (.putfield 43, 3) := by decide +kernel
theorem dX3_init_89 : decode cX3_init 89 = .ok (.aload_n 0, 1) := by decide +kernel
theorem dX3_init_90 : decode cX3_init 90 = .ok (.new 30, 3) := by decide +kernel
theorem dX3_init_93 : decode cX3_init 93 = .ok (.dup, 1) := by decide +kernel
theorem dX3_init_94 : decode cX3_init 94 = .ok (.invokespecial 32, 3) := by decide +kernel
theorem dX3_init_97 : decode cX3_init 97 = .ok (.putfield 46, 3) := by decide +kernel
theorem dX3_init_100 : decode cX3_init 100 = .ok (.aload_n 0, 1) := by decide +kernel
theorem dX3_init_101 : decode cX3_init 101 = .ok (.new 30, 3) := by decide +kernel
theorem dX3_init_104 : decode cX3_init 104 = .ok (.dup, 1) := by decide +kernel
theorem dX3_init_105 : decode cX3_init 105 = .ok (.invokespecial 32, 3) := by decide +kernel
theorem dX3_init_108 : decode cX3_init 108 = .ok (.putfield 49, 3) := by decide +kernel
theorem dX3_init_111 : decode cX3_init 111 = .ok (.aload_n 0, 1) := by decide +kernel
theorem dX3_init_112 : decode cX3_init 112 = .ok (.new 30, 3) := by decide +kernel
theorem dX3_init_115 : decode cX3_init 115 = .ok (.dup, 1) := by decide +kernel
theorem dX3_init_116 : decode cX3_init 116 = .ok (.invokespecial 32, 3) := by decide +kernel
theorem dX3_init_119 : decode cX3_init 119 = .ok (.putfield 52, 3) := by decide +kernel
theorem dX3_init_122 : decode cX3_init 122 = .ok (.aload_n 0, 1) := by decide +kernel
theorem dX3_init_123 : decode cX3_init 123 = .ok (.new 30, 3) := by decide +kernel
theorem dX3_init_126 : decode cX3_init 126 = .ok (.dup, 1) := by decide +kernel
theorem dX3_init_127 : decode cX3_init 127 = .ok (.invokespecial 32, 3) := by decide +kernel
theorem dX3_init_130 : decode cX3_init 130 = .ok (.putfield 55, 3) := by decide +kernel
theorem dX3_init_133 : decode cX3_init 133 = .ok (.aload_n 0, 1) := by decide +kernel
theorem dX3_init_134 : decode cX3_init 134 = .ok (.new 30, 3) := by decide +kernel
theorem dX3_init_137 : decode cX3_init 137 = .ok (.dup, 1) := by decide +kernel
theorem dX3_init_138 : decode cX3_init 138 = .ok (.invokespecial 32, 3) := by decide +kernel
theorem dX3_init_141 : decode cX3_init 141 = .ok (.putfield 58, 3) := by decide +kernel
theorem dX3_init_144 : decode cX3_init 144 = .ok (.aload_n 0, 1) := by decide +kernel
theorem dX3_init_145 : decode cX3_init 145 = .ok (.new 61, 3) := by decide +kernel
theorem dX3_init_148 : decode cX3_init 148 = .ok (.dup, 1) := by decide +kernel
theorem dX3_init_149 : decode cX3_init 149 = .ok (.invokespecial 63, 3) := by decide +kernel
theorem dX3_init_152 : decode cX3_init 152 = .ok (.putfield 64, 3) := by decide +kernel
theorem dX3_init_155 : decode cX3_init 155 = .ok (.aload_n 0, 1) := by decide +kernel
theorem dX3_init_156 : decode cX3_init 156 = .ok (.getfield 58, 3) := by decide +kernel
theorem dX3_init_159 : decode cX3_init 159 = .ok (.iconst 0, 1) := by decide +kernel
theorem dX3_init_160 : decode cX3_init 160 = .ok (.invokevirtual 68, 3) := by decide +kernel
theorem dX3_init_163 : decode cX3_init 163 = .ok (.iconst 0, 1) := by decide +kernel
theorem dX3_init_164 : decode cX3_init 164 = .ok (.iconst 1, 1) := by decide +kernel
theorem dX3_init_165 : decode cX3_init 165 = .ok (.invokevirtual 72, 3) := by decide +kernel
theorem dX3_init_168 : decode cX3_init 168 = .ok (.aload_n 0, 1) := by decide +kernel
theorem dX3_init_169 : decode cX3_init 169 = .ok (.getfield 27, 3) := by decide +kernel
theorem dX3_init_172 : decode cX3_init 172 = .ok (.iconst 0, 1) := by decide +kernel
theorem dX3_init_173 : decode cX3_init 173 = .ok (.iconst 1, 1) := by decide +kernel
theorem dX3_init_174 : decode cX3_init 174 = .ok (.invokevirtual 72, 3) := by decide +kernel
theorem dX3_init_177 : decode cX3_init 177 = .ok (.return_, 1) := by decide +kernel
theorem dX3_number_0 : decode cX3_number 0 = .ok (.aload_n 0, 1) := by decide +kernel
theorem dX3_number_1 : decode cX3_number 1 = .ok (.invokevirtual 76, 3) := by decide +kernel
theorem dX3_number_4 : decode cX3_number 4 = .ok (.lload_n 3, 1) := by decide +kernel
theorem dX3_number_5 : decode cX3_number 5 = .ok (.invokestatic 79, 3) := by decide +kernel
theorem dX3_number_8 : decode cX3_number 8 = .ok (.istore 5, 2) := by decide +kernel
theorem dX3_number_10 : decode cX3_number 10 = .ok (.iload 5, 2) := by decide +kernel
theorem dX3_number_12 : decode cX3_number 12 = .ok (.ifCond .ne 13, 3) := by decide +kernel
theorem dX3_number_15 : decode cX3_number 15 = .ok (.new 83, 3) := by decide +kernel
theorem dX3_number_18 : decode cX3_number 18 = .ok (.dup, 1) := by decide +kernel
theorem dX3_number_19 : decode cX3_number 19 = .ok (.ldc 85, 2) := by decide +kernel
theorem dX3_number_21 : decode cX3_number 21 = .ok (.invokespecial 87, 3) := by decide +kernel
theorem dX3_number_24 : decode cX3_number 24 = .ok (.athrow, 1) := by decide +kernel
theorem dX3_number_25 : decode cX3_number 25 = .ok (.aload_n 0, 1) := by decide +kernel
theorem dX3_number_26 : decode cX3_number 26 = .ok (.iconst 0, 1) := by decide +kernel
theorem dX3_number_27 : decode cX3_number 27 = .ok (.iconst 0, 1) := by decide +kernel
theorem dX3_number_28 : decode cX3_number 28 = .ok (.lload_n 1, 1) := by decide +kernel
theorem dX3_number_29 : decode cX3_number 29 = .ok (.invokestatic 79, 3) := by decide +kernel
theorem dX3_number_32 : decode cX3_number 32 = .ok (.iload 5, 2) := by decide +kernel
theorem dX3_number_34 : decode cX3_number 34 = .ok (.invokestatic 90, 3) := by decide +kernel
theorem dX3_number_37 : decode cX3_number 37 = .ok (.imul, 1) := by decide +kernel
theorem dX3_number_38 : decode cX3_number 38 = .ok (.sipush 32003, 3) := by decide +kernel
theorem dX3_number_41 : decode cX3_number 41 = .ok (.irem, 1) := by decide +kernel
theorem dX3_number_42 : decode cX3_number 42 = .ok (.invokevirtual 94, 3) := by decide +kernel
theorem dX3_number_45 : decode cX3_number 45 = .ok (.ireturn, 1) := by decide +kernel
theorem dX3_base_0 : decode cX3_base 0 = .ok (.aload_n 0, 1) := by decide +kernel
theorem dX3_base_1 : decode cX3_base 1 = .ok (.invokevirtual 76, 3) := by decide +kernel
theorem dX3_base_4 : decode cX3_base 4 = .ok (.aload_n 0, 1) := by decide +kernel
theorem dX3_base_5 : decode cX3_base 5 = .ok (.iconst 0, 1) := by decide +kernel
theorem dX3_base_6 : decode cX3_base 6 = .ok (.iconst 1, 1) := by decide +kernel
theorem dX3_base_7 : decode cX3_base 7 = .ok (.iconst 1, 1) := by decide +kernel
theorem dX3_base_8 : decode cX3_base 8 = .ok (.invokevirtual 94, 3) := by decide +kernel
theorem dX3_base_11 : decode cX3_base 11 = .ok (.ireturn, 1) := by decide +kernel
theorem dX3_letter_0 : decode cX3_letter 0 = .ok (.aload_n 0, 1) := by decide +kernel
theorem dX3_letter_1 : decode cX3_letter 1 = .ok (.iload_n 2, 1) := by decide +kernel
theorem dX3_letter_2 : decode cX3_letter 2 = .ok (.invokevirtual 98, 3) := by decide +kernel
theorem dX3_letter_5 : decode cX3_letter 5 = .ok (.aload_n 0, 1) := by decide +kernel
theorem dX3_letter_6 : decode cX3_letter 6 = .ok (.invokevirtual 76, 3) := by decide +kernel
theorem dX3_letter_9 : decode cX3_letter 9 = .ok (.aload_n 0, 1) := by decide +kernel
theorem dX3_letter_10 : decode cX3_letter 10 = .ok (.getfield 17, 3) := by decide +kernel
theorem dX3_letter_13 : decode cX3_letter 13 = .ok (.ifCond .eq 13, 3) := by decide +kernel
theorem dX3_letter_16 : decode cX3_letter 16 = .ok (.new 102, 3) := by decide +kernel
theorem dX3_letter_19 : decode cX3_letter 19 = .ok (.dup, 1) := by decide +kernel
theorem dX3_letter_20 : decode cX3_letter 20 = .ok (.ldc 104, 2) := by decide +kernel
theorem dX3_letter_22 : decode cX3_letter 22 = .ok (.invokespecial 106, 3) := by decide +kernel
theorem dX3_letter_25 : decode cX3_letter 25 = .ok (.athrow, 1) := by decide +kernel
theorem dX3_letter_26 : decode cX3_letter 26 = .ok (.iload_n 1, 1) := by decide +kernel
theorem dX3_letter_27 : decode cX3_letter 27 = .ok (.iconst 1, 1) := by decide +kernel
theorem dX3_letter_28 : decode cX3_letter 28 = .ok (.if_icmp .eq 18, 3) := by decide +kernel
theorem dX3_letter_31 : decode cX3_letter 31 = .ok (.iload_n 1, 1) := by decide +kernel
theorem dX3_letter_32 : decode cX3_letter 32 = .ok (.iconst 2, 1) := by decide +kernel
theorem dX3_letter_33 : decode cX3_letter 33 = .ok (.if_icmp .eq 13, 3) := by decide +kernel
theorem dX3_letter_36 : decode cX3_letter 36 = .ok (.new 102, 3) := by decide +kernel
theorem dX3_letter_39 : decode cX3_letter 39 = .ok (.dup, 1) := by decide +kernel
theorem dX3_letter_40 : decode cX3_letter 40 = .ok (.ldc 107, 2) := by decide +kernel
theorem dX3_letter_42 : decode cX3_letter 42 = .ok (.invokespecial 106, 3) := by decide +kernel
theorem dX3_letter_45 : decode cX3_letter 45 = .ok (.athrow, 1) := by decide +kernel
theorem dX3_letter_46 : decode cX3_letter 46 = .ok (.aload_n 0, 1) := by decide +kernel
theorem dX3_letter_47 : decode cX3_letter 47 = .ok (.iload_n 2, 1) := by decide +kernel
theorem dX3_letter_48 : decode cX3_letter 48 = .ok (.invokevirtual 109, 3) := by decide +kernel
theorem dX3_letter_51 : decode cX3_letter 51 = .ok (.ifCond .eq 13, 3) := by decide +kernel
theorem dX3_letter_54 : decode cX3_letter 54 = .ok (.new 102, 3) := by decide +kernel
theorem dX3_letter_57 : decode cX3_letter 57 = .ok (.dup, 1) := by decide +kernel
theorem dX3_letter_58 : decode cX3_letter 58 = .ok (.ldc 113, 2) := by decide +kernel
theorem dX3_letter_60 : decode cX3_letter 60 = .ok (.invokespecial 106, 3) := by decide +kernel
theorem dX3_letter_63 : decode cX3_letter 63 = .ok (.athrow, 1) := by decide +kernel
theorem dX3_letter_64 : decode cX3_letter 64 = .ok (.aload_n 0, 1) := by decide +kernel
theorem dX3_letter_65 : decode cX3_letter 65 = .ok (.iload_n 1, 1) := by decide +kernel
theorem dX3_letter_66 : decode cX3_letter 66 = .ok (.invokevirtual 115, 3) := by decide +kernel
theorem dX3_letter_69 : decode cX3_letter 69 = .ok (.aload_n 0, 1) := by decide +kernel
theorem dX3_letter_70 : decode cX3_letter 70 = .ok (.iload_n 1, 1) := by decide +kernel
theorem dX3_letter_71 : decode cX3_letter 71 = .ok (.putfield 17, 3) := by decide +kernel
theorem dX3_letter_74 : decode cX3_letter 74 = .ok (.aload_n 0, 1) := by decide +kernel
theorem dX3_letter_75 : decode cX3_letter 75 = .ok (.iconst 1, 1) := by decide +kernel
theorem dX3_letter_76 : decode cX3_letter 76 = .ok (.iconst 0, 1) := by decide +kernel
theorem dX3_letter_77 : decode cX3_letter 77 = .ok (.iconst 1, 1) := by decide +kernel
theorem dX3_letter_78 : decode cX3_letter 78 = .ok (.invokevirtual 94, 3) := by decide +kernel
theorem dX3_letter_81 : decode cX3_letter 81 = .ok (.ireturn, 1) := by decide +kernel
theorem dX3_top_0 : decode cX3_top 0 = .ok (.aload_n 0, 1) := by decide +kernel
theorem dX3_top_1 : decode cX3_top 1 = .ok (.invokevirtual 76, 3) := by decide +kernel
theorem dX3_top_4 : decode cX3_top 4 = .ok (.aload_n 0, 1) := by decide +kernel
theorem dX3_top_5 : decode cX3_top 5 = .ok (.getfield 17, 3) := by decide +kernel
theorem dX3_top_8 : decode cX3_top 8 = .ok (.ifCond .ne 13, 3) := by decide +kernel
theorem dX3_top_11 : decode cX3_top 11 = .ok (.new 102, 3) := by decide +kernel
theorem dX3_top_14 : decode cX3_top 14 = .ok (.dup, 1) := by decide +kernel
theorem dX3_top_15 : decode cX3_top 15 = .ok (.ldc 118, 2) := by decide +kernel
theorem dX3_top_17 : decode cX3_top 17 = .ok (.invokespecial 106, 3) := by decide +kernel
theorem dX3_top_20 : decode cX3_top 20 = .ok (.athrow, 1) := by decide +kernel
theorem dX3_top_21 : decode cX3_top 21 = .ok (.aload_n 0, 1) := by decide +kernel
theorem dX3_top_22 : decode cX3_top 22 = .ok (.iconst 1, 1) := by decide +kernel
theorem dX3_top_23 : decode cX3_top 23 = .ok (.iconst 0, 1) := by decide +kernel
theorem dX3_top_24 : decode cX3_top 24 = .ok (.iconst 1, 1) := by decide +kernel
theorem dX3_top_25 : decode cX3_top 25 = .ok (.invokevirtual 94, 3) := by decide +kernel
theorem dX3_top_28 : decode cX3_top 28 = .ok (.ireturn, 1) := by decide +kernel
theorem dX3_add_0 : decode cX3_add 0 = .ok (.aload_n 0, 1) := by decide +kernel
theorem dX3_add_1 : decode cX3_add 1 = .ok (.iload_n 1, 1) := by decide +kernel
theorem dX3_add_2 : decode cX3_add 2 = .ok (.iload_n 2, 1) := by decide +kernel
theorem dX3_add_3 : decode cX3_add 3 = .ok (.invokevirtual 120, 3) := by decide +kernel
theorem dX3_add_6 : decode cX3_add 6 = .ok (.aload_n 0, 1) := by decide +kernel
theorem dX3_add_7 : decode cX3_add 7 = .ok (.iconst 1, 1) := by decide +kernel
theorem dX3_add_8 : decode cX3_add 8 = .ok (.invokevirtual 123, 3) := by decide +kernel
theorem dX3_add_11 : decode cX3_add 11 = .ok (.aload_n 0, 1) := by decide +kernel
theorem dX3_add_12 : decode cX3_add 12 = .ok (.invokevirtual 126, 3) := by decide +kernel
theorem dX3_add_15 : decode cX3_add 15 = .ok (.ireturn, 1) := by decide +kernel
theorem dX3_less_0 : decode cX3_less 0 = .ok (.aload_n 0, 1) := by decide +kernel
theorem dX3_less_1 : decode cX3_less 1 = .ok (.iload_n 1, 1) := by decide +kernel
theorem dX3_less_2 : decode cX3_less 2 = .ok (.iload_n 2, 1) := by decide +kernel
theorem dX3_less_3 : decode cX3_less 3 = .ok (.invokevirtual 120, 3) := by decide +kernel
theorem dX3_less_6 : decode cX3_less 6 = .ok (.aload_n 0, 1) := by decide +kernel
theorem dX3_less_7 : decode cX3_less 7 = .ok (.sipush 32002, 3) := by decide +kernel
theorem dX3_less_10 : decode cX3_less 10 = .ok (.invokevirtual 123, 3) := by decide +kernel
theorem dX3_less_13 : decode cX3_less 13 = .ok (.aload_n 0, 1) := by decide +kernel
theorem dX3_less_14 : decode cX3_less 14 = .ok (.invokevirtual 126, 3) := by decide +kernel
theorem dX3_less_17 : decode cX3_less 17 = .ok (.ireturn, 1) := by decide +kernel
theorem dX3_times_0 : decode cX3_times 0 = .ok (.aload_n 0, 1) := by decide +kernel
theorem dX3_times_1 : decode cX3_times 1 = .ok (.iload_n 1, 1) := by decide +kernel
theorem dX3_times_2 : decode cX3_times 2 = .ok (.iload_n 2, 1) := by decide +kernel
theorem dX3_times_3 : decode cX3_times 3 = .ok (.invokevirtual 120, 3) := by decide +kernel
theorem dX3_times_6 : decode cX3_times 6 = .ok (.aload_n 0, 1) := by decide +kernel
theorem dX3_times_7 : decode cX3_times 7 = .ok (.getfield 52, 3) := by decide +kernel
theorem dX3_times_10 : decode cX3_times 10 = .ok (.invokevirtual 130, 3) := by decide +kernel
theorem dX3_times_13 : decode cX3_times 13 = .ok (.aload_n 0, 1) := by decide +kernel
theorem dX3_times_14 : decode cX3_times 14 = .ok (.getfield 52, 3) := by decide +kernel
theorem dX3_times_17 : decode cX3_times 17 = .ok (.aload_n 0, 1) := by decide +kernel
theorem dX3_times_18 : decode cX3_times 18 = .ok (.getfield 33, 3) := by decide +kernel
theorem dX3_times_21 : decode cX3_times 21 = .ok (.aload_n 0, 1) := by decide +kernel
theorem dX3_times_22 : decode cX3_times 22 = .ok (.getfield 40, 3) := by decide +kernel
theorem dX3_times_25 : decode cX3_times 25 = .ok (.iconst 1, 1) := by decide +kernel
theorem dX3_times_26 : decode cX3_times 26 = .ok (.invokevirtual 133, 3) := by decide +kernel
theorem dX3_times_29 : decode cX3_times 29 = .ok (.aload_n 0, 1) := by decide +kernel
theorem dX3_times_30 : decode cX3_times 30 = .ok (.getfield 55, 3) := by decide +kernel
theorem dX3_times_33 : decode cX3_times 33 = .ok (.invokevirtual 130, 3) := by decide +kernel
theorem dX3_times_36 : decode cX3_times 36 = .ok (.aload_n 0, 1) := by decide +kernel
theorem dX3_times_37 : decode cX3_times 37 = .ok (.getfield 55, 3) := by decide +kernel
theorem dX3_times_40 : decode cX3_times 40 = .ok (.aload_n 0, 1) := by decide +kernel
theorem dX3_times_41 : decode cX3_times 41 = .ok (.getfield 37, 3) := by decide +kernel
theorem dX3_times_44 : decode cX3_times 44 = .ok (.aload_n 0, 1) := by decide +kernel
theorem dX3_times_45 : decode cX3_times 45 = .ok (.getfield 43, 3) := by decide +kernel
theorem dX3_times_48 : decode cX3_times 48 = .ok (.iconst 1, 1) := by decide +kernel
theorem dX3_times_49 : decode cX3_times 49 = .ok (.invokevirtual 133, 3) := by decide +kernel
theorem dX3_times_52 : decode cX3_times 52 = .ok (.aload_n 0, 1) := by decide +kernel
theorem dX3_times_53 : decode cX3_times 53 = .ok (.invokevirtual 126, 3) := by decide +kernel
theorem dX3_times_56 : decode cX3_times 56 = .ok (.ireturn, 1) := by decide +kernel
theorem dX3_over_0 : decode cX3_over 0 = .ok (.aload_n 0, 1) := by decide +kernel
theorem dX3_over_1 : decode cX3_over 1 = .ok (.iload_n 1, 1) := by decide +kernel
theorem dX3_over_2 : decode cX3_over 2 = .ok (.iload_n 2, 1) := by decide +kernel
theorem dX3_over_3 : decode cX3_over 3 = .ok (.invokevirtual 120, 3) := by decide +kernel
theorem dX3_over_6 : decode cX3_over 6 = .ok (.aload_n 0, 1) := by decide +kernel
theorem dX3_over_7 : decode cX3_over 7 = .ok (.getfield 40, 3) := by decide +kernel
theorem dX3_over_10 : decode cX3_over 10 = .ok (.invokevirtual 137, 3) := by decide +kernel
theorem dX3_over_13 : decode cX3_over 13 = .ok (.ifCond .eq 5, 3) := by decide +kernel
theorem dX3_over_16 : decode cX3_over 16 = .ok (.iconst (-1), 1) := by decide +kernel
theorem dX3_over_17 : decode cX3_over 17 = .ok (.ireturn, 1) := by decide +kernel
theorem dX3_over_18 : decode cX3_over 18 = .ok (.aload_n 0, 1) := by decide +kernel
theorem dX3_over_19 : decode cX3_over 19 = .ok (.getfield 52, 3) := by decide +kernel
theorem dX3_over_22 : decode cX3_over 22 = .ok (.invokevirtual 130, 3) := by decide +kernel
theorem dX3_over_25 : decode cX3_over 25 = .ok (.aload_n 0, 1) := by decide +kernel
theorem dX3_over_26 : decode cX3_over 26 = .ok (.getfield 52, 3) := by decide +kernel
theorem dX3_over_29 : decode cX3_over 29 = .ok (.aload_n 0, 1) := by decide +kernel
theorem dX3_over_30 : decode cX3_over 30 = .ok (.getfield 33, 3) := by decide +kernel
theorem dX3_over_33 : decode cX3_over 33 = .ok (.aload_n 0, 1) := by decide +kernel
theorem dX3_over_34 : decode cX3_over 34 = .ok (.getfield 43, 3) := by decide +kernel
theorem dX3_over_37 : decode cX3_over 37 = .ok (.iconst 1, 1) := by decide +kernel
theorem dX3_over_38 : decode cX3_over 38 = .ok (.invokevirtual 133, 3) := by decide +kernel
theorem dX3_over_41 : decode cX3_over 41 = .ok (.aload_n 0, 1) := by decide +kernel
theorem dX3_over_42 : decode cX3_over 42 = .ok (.getfield 55, 3) := by decide +kernel
theorem dX3_over_45 : decode cX3_over 45 = .ok (.invokevirtual 130, 3) := by decide +kernel
theorem dX3_over_48 : decode cX3_over 48 = .ok (.aload_n 0, 1) := by decide +kernel
theorem dX3_over_49 : decode cX3_over 49 = .ok (.getfield 55, 3) := by decide +kernel
theorem dX3_over_52 : decode cX3_over 52 = .ok (.aload_n 0, 1) := by decide +kernel
theorem dX3_over_53 : decode cX3_over 53 = .ok (.getfield 37, 3) := by decide +kernel
theorem dX3_over_56 : decode cX3_over 56 = .ok (.aload_n 0, 1) := by decide +kernel
theorem dX3_over_57 : decode cX3_over 57 = .ok (.getfield 40, 3) := by decide +kernel
theorem dX3_over_60 : decode cX3_over 60 = .ok (.iconst 1, 1) := by decide +kernel
theorem dX3_over_61 : decode cX3_over 61 = .ok (.invokevirtual 133, 3) := by decide +kernel
theorem dX3_over_64 : decode cX3_over 64 = .ok (.aload_n 0, 1) := by decide +kernel
theorem dX3_over_65 : decode cX3_over 65 = .ok (.invokevirtual 126, 3) := by decide +kernel
theorem dX3_over_68 : decode cX3_over 68 = .ok (.ireturn, 1) := by decide +kernel
theorem dX3_derive_0 : decode cX3_derive 0 = .ok (.aload_n 0, 1) := by decide +kernel
theorem dX3_derive_1 : decode cX3_derive 1 = .ok (.iload_n 1, 1) := by decide +kernel
theorem dX3_derive_2 : decode cX3_derive 2 = .ok (.invokevirtual 98, 3) := by decide +kernel
theorem dX3_derive_5 : decode cX3_derive 5 = .ok (.aload_n 0, 1) := by decide +kernel
theorem dX3_derive_6 : decode cX3_derive 6 = .ok (.invokevirtual 76, 3) := by decide +kernel
theorem dX3_derive_9 : decode cX3_derive 9 = .ok (.aload_n 0, 1) := by decide +kernel
theorem dX3_derive_10 : decode cX3_derive 10 = .ok (.iload_n 1, 1) := by decide +kernel
theorem dX3_derive_11 : decode cX3_derive 11 = .ok (.invokevirtual 141, 3) := by decide +kernel
theorem dX3_derive_14 : decode cX3_derive 14 = .ok (.aload_n 0, 1) := by decide +kernel
theorem dX3_derive_15 : decode cX3_derive 15 = .ok (.aload_n 0, 1) := by decide +kernel
theorem dX3_derive_16 : decode cX3_derive 16 = .ok (.getfield 37, 3) := by decide +kernel
theorem dX3_derive_19 : decode cX3_derive 19 = .ok (.aload_n 0, 1) := by decide +kernel
theorem dX3_derive_20 : decode cX3_derive 20 = .ok (.getfield 37, 3) := by decide +kernel
theorem dX3_derive_23 : decode cX3_derive 23 = .ok (.invokevirtual 144, 3) := by decide +kernel
theorem dX3_derive_26 : decode cX3_derive 26 = .ok (.aload_n 0, 1) := by decide +kernel
theorem dX3_derive_27 : decode cX3_derive 27 = .ok (.invokevirtual 126, 3) := by decide +kernel
theorem dX3_derive_30 : decode cX3_derive 30 = .ok (.ireturn, 1) := by decide +kernel
theorem dX3_logarithmic_0 : decode cX3_logarithmic 0 = .ok (.aload_n 0, 1) := by decide +kernel
theorem dX3_logarithmic_1 : decode cX3_logarithmic 1 = .ok (.iload_n 1, 1) := by decide +kernel
theorem dX3_logarithmic_2 : decode cX3_logarithmic 2 = .ok (.invokevirtual 98, 3) := by decide +kernel
theorem dX3_logarithmic_5 : decode cX3_logarithmic 5 = .ok (.aload_n 0, 1) := by decide +kernel
theorem dX3_logarithmic_6 : decode cX3_logarithmic 6 = .ok (.invokevirtual 76, 3) := by decide +kernel
theorem dX3_logarithmic_9 : decode cX3_logarithmic 9 = .ok (.aload_n 0, 1) := by decide +kernel
theorem dX3_logarithmic_10 : decode cX3_logarithmic 10 = .ok (.iload_n 1, 1) := by decide +kernel
theorem dX3_logarithmic_11 : decode cX3_logarithmic 11 = .ok (.invokevirtual 141, 3) := by decide +kernel
theorem dX3_logarithmic_14 : decode cX3_logarithmic 14 = .ok (.aload_n 0, 1) := by decide +kernel
theorem dX3_logarithmic_15 : decode cX3_logarithmic 15 = .ok (.getfield 33, 3) := by decide +kernel
theorem dX3_logarithmic_18 : decode cX3_logarithmic 18 = .ok (.invokevirtual 137, 3) := by decide +kernel
theorem dX3_logarithmic_21 : decode cX3_logarithmic 21 = .ok (.ifCond .eq 5, 3) := by decide +kernel
theorem dX3_logarithmic_24 : decode cX3_logarithmic 24 = .ok (.iconst (-1), 1) := by decide +kernel
theorem dX3_logarithmic_25 : decode cX3_logarithmic 25 = .ok (.ireturn, 1) := by decide +kernel
theorem dX3_logarithmic_26 : decode cX3_logarithmic 26 = .ok (.aload_n 0, 1) := by decide +kernel
theorem dX3_logarithmic_27 : decode cX3_logarithmic 27 = .ok (.aload_n 0, 1) := by decide +kernel
theorem dX3_logarithmic_28 : decode cX3_logarithmic 28 = .ok (.getfield 33, 3) := by decide +kernel
theorem dX3_logarithmic_31 : decode cX3_logarithmic 31 = .ok (.aload_n 0, 1) := by decide +kernel
theorem dX3_logarithmic_32 : decode cX3_logarithmic 32 = .ok (.getfield 37, 3) := by decide +kernel
theorem dX3_logarithmic_35 : decode cX3_logarithmic 35 = .ok (.invokevirtual 144, 3) := by decide +kernel
theorem dX3_logarithmic_38 : decode cX3_logarithmic 38 = .ok (.aload_n 0, 1) := by decide +kernel
theorem dX3_logarithmic_39 : decode cX3_logarithmic 39 = .ok (.invokevirtual 126, 3) := by decide +kernel
theorem dX3_logarithmic_42 : decode cX3_logarithmic 42 = .ok (.ireturn, 1) := by decide +kernel
theorem dX3_part_0 : decode cX3_part 0 = .ok (.aload_n 0, 1) := by decide +kernel
theorem dX3_part_1 : decode cX3_part 1 = .ok (.iload_n 1, 1) := by decide +kernel
theorem dX3_part_2 : decode cX3_part 2 = .ok (.invokevirtual 98, 3) := by decide +kernel
theorem dX3_part_5 : decode cX3_part 5 = .ok (.aload_n 0, 1) := by decide +kernel
theorem dX3_part_6 : decode cX3_part 6 = .ok (.invokevirtual 76, 3) := by decide +kernel
theorem dX3_part_9 : decode cX3_part 9 = .ok (.iload_n 2, 1) := by decide +kernel
theorem dX3_part_10 : decode cX3_part 10 = .ok (.ifCond .lt 8, 3) := by decide +kernel
theorem dX3_part_13 : decode cX3_part 13 = .ok (.iload_n 2, 1) := by decide +kernel
theorem dX3_part_14 : decode cX3_part 14 = .ok (.iconst 4, 1) := by decide +kernel
theorem dX3_part_15 : decode cX3_part 15 = .ok (.if_icmp .le 13, 3) := by decide +kernel
theorem dX3_part_18 : decode cX3_part 18 = .ok (.new 102, 3) := by decide +kernel
theorem dX3_part_21 : decode cX3_part 21 = .ok (.dup, 1) := by decide +kernel
theorem dX3_part_22 : decode cX3_part 22 = .ok (.ldc 148, 2) := by decide +kernel
theorem dX3_part_24 : decode cX3_part 24 = .ok (.invokespecial 106, 3) := by decide +kernel
theorem dX3_part_27 : decode cX3_part 27 = .ok (.athrow, 1) := by decide +kernel
theorem dX3_part_28 : decode cX3_part 28 = .ok (.aload_n 0, 1) := by decide +kernel
theorem dX3_part_29 : decode cX3_part 29 = .ok (.iload_n 1, 1) := by decide +kernel
theorem dX3_part_30 : decode cX3_part 30 = .ok (.iload_n 2, 1) := by decide +kernel
theorem dX3_part_31 : decode cX3_part 31 = .ok (.ifCond .ne 7, 3) := by decide +kernel
theorem dX3_part_34 : decode cX3_part 34 = .ok (.iconst 0, 1) := by decide +kernel
theorem dX3_part_35 : decode cX3_part 35 = .ok (.goto 4, 3) := by decide +kernel
theorem dX3_part_38 : decode cX3_part 38 = .ok (.iconst 1, 1) := by decide +kernel
theorem dX3_part_39 : decode cX3_part 39 = .ok (.aload_n 0, 1) := by decide +kernel
theorem dX3_part_40 : decode cX3_part 40 = .ok (.getfield 33, 3) := by decide +kernel
theorem dX3_part_43 : decode cX3_part 43 = .ok (.invokevirtual 150, 3) := by decide +kernel
theorem dX3_part_46 : decode cX3_part 46 = .ok (.iload_n 2, 1) := by decide +kernel
theorem dX3_part_47 : decode cX3_part 47 = .ok (.iconst 2, 1) := by decide +kernel
theorem dX3_part_48 : decode cX3_part 48 = .ok (.if_icmp .lt 11, 3) := by decide +kernel
theorem dX3_part_51 : decode cX3_part 51 = .ok (.aload_n 0, 1) := by decide +kernel
theorem dX3_part_52 : decode cX3_part 52 = .ok (.aload_n 0, 1) := by decide +kernel
theorem dX3_part_53 : decode cX3_part 53 = .ok (.getfield 33, 3) := by decide +kernel
theorem dX3_part_56 : decode cX3_part 56 = .ok (.invokevirtual 154, 3) := by decide +kernel
theorem dX3_part_59 : decode cX3_part 59 = .ok (.iload_n 2, 1) := by decide +kernel
theorem dX3_part_60 : decode cX3_part 60 = .ok (.iconst 3, 1) := by decide +kernel
theorem dX3_part_61 : decode cX3_part 61 = .ok (.if_icmp .lt 12, 3) := by decide +kernel
theorem dX3_part_64 : decode cX3_part 64 = .ok (.aload_n 0, 1) := by decide +kernel
theorem dX3_part_65 : decode cX3_part 65 = .ok (.aload_n 0, 1) := by decide +kernel
theorem dX3_part_66 : decode cX3_part 66 = .ok (.getfield 33, 3) := by decide +kernel
theorem dX3_part_69 : decode cX3_part 69 = .ok (.iload_n 2, 1) := by decide +kernel
theorem dX3_part_70 : decode cX3_part 70 = .ok (.invokevirtual 158, 3) := by decide +kernel
theorem dX3_part_73 : decode cX3_part 73 = .ok (.aload_n 0, 1) := by decide +kernel
theorem dX3_part_74 : decode cX3_part 74 = .ok (.aload_n 0, 1) := by decide +kernel
theorem dX3_part_75 : decode cX3_part 75 = .ok (.getfield 33, 3) := by decide +kernel
theorem dX3_part_78 : decode cX3_part 78 = .ok (.aload_n 0, 1) := by decide +kernel
theorem dX3_part_79 : decode cX3_part 79 = .ok (.getfield 58, 3) := by decide +kernel
theorem dX3_part_82 : decode cX3_part 82 = .ok (.invokevirtual 162, 3) := by decide +kernel
theorem dX3_part_85 : decode cX3_part 85 = .ok (.ireturn, 1) := by decide +kernel
theorem dX3_common_0 : decode cX3_common 0 = .ok (.aload_n 0, 1) := by decide +kernel
theorem dX3_common_1 : decode cX3_common 1 = .ok (.iload_n 1, 1) := by decide +kernel
theorem dX3_common_2 : decode cX3_common 2 = .ok (.iload_n 2, 1) := by decide +kernel
theorem dX3_common_3 : decode cX3_common 3 = .ok (.invokevirtual 120, 3) := by decide +kernel
theorem dX3_common_6 : decode cX3_common 6 = .ok (.aload_n 0, 1) := by decide +kernel
theorem dX3_common_7 : decode cX3_common 7 = .ok (.getfield 64, 3) := by decide +kernel
theorem dX3_common_10 : decode cX3_common 10 = .ok (.aload_n 0, 1) := by decide +kernel
theorem dX3_common_11 : decode cX3_common 11 = .ok (.getfield 33, 3) := by decide +kernel
theorem dX3_common_14 : decode cX3_common 14 = .ok (.aload_n 0, 1) := by decide +kernel
theorem dX3_common_15 : decode cX3_common 15 = .ok (.getfield 40, 3) := by decide +kernel
theorem dX3_common_18 : decode cX3_common 18 = .ok (.invokevirtual 166, 3) := by decide +kernel
theorem dX3_common_21 : decode cX3_common 21 = .ok (.aload_n 0, 1) := by decide +kernel
theorem dX3_common_22 : decode cX3_common 22 = .ok (.aload_n 0, 1) := by decide +kernel
theorem dX3_common_23 : decode cX3_common 23 = .ok (.getfield 64, 3) := by decide +kernel
theorem dX3_common_26 : decode cX3_common 26 = .ok (.getfield 169, 3) := by decide +kernel
theorem dX3_common_29 : decode cX3_common 29 = .ok (.aload_n 0, 1) := by decide +kernel
theorem dX3_common_30 : decode cX3_common 30 = .ok (.getfield 58, 3) := by decide +kernel
theorem dX3_common_33 : decode cX3_common 33 = .ok (.invokevirtual 162, 3) := by decide +kernel
theorem dX3_common_36 : decode cX3_common 36 = .ok (.ireturn, 1) := by decide +kernel
theorem dX3_same_0 : decode cX3_same 0 = .ok (.aload_n 0, 1) := by decide +kernel
theorem dX3_same_1 : decode cX3_same 1 = .ok (.iload_n 1, 1) := by decide +kernel
theorem dX3_same_2 : decode cX3_same 2 = .ok (.invokevirtual 98, 3) := by decide +kernel
theorem dX3_same_5 : decode cX3_same 5 = .ok (.aload_n 0, 1) := by decide +kernel
theorem dX3_same_6 : decode cX3_same 6 = .ok (.iload_n 2, 1) := by decide +kernel
theorem dX3_same_7 : decode cX3_same 7 = .ok (.invokevirtual 98, 3) := by decide +kernel
theorem dX3_same_10 : decode cX3_same 10 = .ok (.iconst 0, 1) := by decide +kernel
theorem dX3_same_11 : decode cX3_same 11 = .ok (.istore_n 3, 1) := by decide +kernel
theorem dX3_same_12 : decode cX3_same 12 = .ok (.iload_n 3, 1) := by decide +kernel
theorem dX3_same_13 : decode cX3_same 13 = .ok (.bipush 98, 2) := by decide +kernel
theorem dX3_same_15 : decode cX3_same 15 = .ok (.if_icmp .ge 38, 3) := by decide +kernel
theorem dX3_same_18 : decode cX3_same 18 = .ok (.aload_n 0, 1) := by decide +kernel
theorem dX3_same_19 : decode cX3_same 19 = .ok (.iload_n 1, 1) := by decide +kernel
theorem dX3_same_20 : decode cX3_same 20 = .ok (.iconst 2, 1) := by decide +kernel
theorem dX3_same_21 : decode cX3_same 21 = .ok (.imul, 1) := by decide +kernel
theorem dX3_same_22 : decode cX3_same 22 = .ok (.bipush 49, 2) := by decide +kernel
theorem dX3_same_24 : decode cX3_same 24 = .ok (.imul, 1) := by decide +kernel
theorem dX3_same_25 : decode cX3_same 25 = .ok (.iload_n 3, 1) := by decide +kernel
theorem dX3_same_26 : decode cX3_same 26 = .ok (.iadd, 1) := by decide +kernel
theorem dX3_same_27 : decode cX3_same 27 = .ok (.invokevirtual 172, 3) := by decide +kernel
theorem dX3_same_30 : decode cX3_same 30 = .ok (.aload_n 0, 1) := by decide +kernel
theorem dX3_same_31 : decode cX3_same 31 = .ok (.iload_n 2, 1) := by decide +kernel
theorem dX3_same_32 : decode cX3_same 32 = .ok (.iconst 2, 1) := by decide +kernel
theorem dX3_same_33 : decode cX3_same 33 = .ok (.imul, 1) := by decide +kernel
theorem dX3_same_34 : decode cX3_same 34 = .ok (.bipush 49, 2) := by decide +kernel
theorem dX3_same_36 : decode cX3_same 36 = .ok (.imul, 1) := by decide +kernel
theorem dX3_same_37 : decode cX3_same 37 = .ok (.iload_n 3, 1) := by decide +kernel
theorem dX3_same_38 : decode cX3_same 38 = .ok (.iadd, 1) := by decide +kernel
theorem dX3_same_39 : decode cX3_same 39 = .ok (.invokevirtual 172, 3) := by decide +kernel
theorem dX3_same_42 : decode cX3_same 42 = .ok (.if_icmp .eq 5, 3) := by decide +kernel
theorem dX3_same_45 : decode cX3_same 45 = .ok (.iconst 0, 1) := by decide +kernel
theorem dX3_same_46 : decode cX3_same 46 = .ok (.ireturn, 1) := by decide +kernel
theorem dX3_same_47 : decode cX3_same 47 = .ok (.iinc 3 1, 3) := by decide +kernel
theorem dX3_same_50 : decode cX3_same 50 = .ok (.goto (-38), 3) := by decide +kernel
theorem dX3_same_53 : decode cX3_same 53 = .ok (.iconst 1, 1) := by decide +kernel
theorem dX3_same_54 : decode cX3_same 54 = .ok (.ireturn, 1) := by decide +kernel
theorem dX3_constant_0 : decode cX3_constant 0 = .ok (.aload_n 0, 1) := by decide +kernel
theorem dX3_constant_1 : decode cX3_constant 1 = .ok (.iload_n 1, 1) := by decide +kernel
theorem dX3_constant_2 : decode cX3_constant 2 = .ok (.invokevirtual 98, 3) := by decide +kernel
theorem dX3_constant_5 : decode cX3_constant 5 = .ok (.aload_n 0, 1) := by decide +kernel
theorem dX3_constant_6 : decode cX3_constant 6 = .ok (.iload_n 1, 1) := by decide +kernel
theorem dX3_constant_7 : decode cX3_constant 7 = .ok (.invokevirtual 109, 3) := by decide +kernel
theorem dX3_constant_10 : decode cX3_constant 10 = .ok (.ireturn, 1) := by decide +kernel
theorem dX3_low_0 : decode cX3_low 0 = .ok (.aload_n 0, 1) := by decide +kernel
theorem dX3_low_1 : decode cX3_low 1 = .ok (.iload_n 1, 1) := by decide +kernel
theorem dX3_low_2 : decode cX3_low 2 = .ok (.invokevirtual 98, 3) := by decide +kernel
theorem dX3_low_5 : decode cX3_low 5 = .ok (.iconst 1, 1) := by decide +kernel
theorem dX3_low_6 : decode cX3_low 6 = .ok (.istore_n 2, 1) := by decide +kernel
theorem dX3_low_7 : decode cX3_low 7 = .ok (.iload_n 2, 1) := by decide +kernel
theorem dX3_low_8 : decode cX3_low 8 = .ok (.bipush 7, 2) := by decide +kernel
theorem dX3_low_10 : decode cX3_low 10 = .ok (.if_icmp .ge 53, 3) := by decide +kernel
theorem dX3_low_13 : decode cX3_low 13 = .ok (.iconst 0, 1) := by decide +kernel
theorem dX3_low_14 : decode cX3_low 14 = .ok (.istore_n 3, 1) := by decide +kernel
theorem dX3_low_15 : decode cX3_low 15 = .ok (.iload_n 3, 1) := by decide +kernel
theorem dX3_low_16 : decode cX3_low 16 = .ok (.bipush 7, 2) := by decide +kernel
theorem dX3_low_18 : decode cX3_low 18 = .ok (.if_icmp .ge 39, 3) := by decide +kernel
theorem dX3_low_21 : decode cX3_low 21 = .ok (.aload_n 0, 1) := by decide +kernel
theorem dX3_low_22 : decode cX3_low 22 = .ok (.iload_n 1, 1) := by decide +kernel
theorem dX3_low_23 : decode cX3_low 23 = .ok (.iconst 0, 1) := by decide +kernel
theorem dX3_low_24 : decode cX3_low 24 = .ok (.iload_n 2, 1) := by decide +kernel
theorem dX3_low_25 : decode cX3_low 25 = .ok (.iload_n 3, 1) := by decide +kernel
theorem dX3_low_26 : decode cX3_low 26 = .ok (.invokestatic 175, 3) := by decide +kernel
theorem dX3_low_29 : decode cX3_low 29 = .ok (.invokevirtual 172, 3) := by decide +kernel
theorem dX3_low_32 : decode cX3_low 32 = .ok (.ifCond .ne 17, 3) := by decide +kernel
theorem dX3_low_35 : decode cX3_low 35 = .ok (.aload_n 0, 1) := by decide +kernel
theorem dX3_low_36 : decode cX3_low 36 = .ok (.iload_n 1, 1) := by decide +kernel
theorem dX3_low_37 : decode cX3_low 37 = .ok (.iconst 1, 1) := by decide +kernel
theorem dX3_low_38 : decode cX3_low 38 = .ok (.iload_n 2, 1) := by decide +kernel
theorem dX3_low_39 : decode cX3_low 39 = .ok (.iload_n 3, 1) := by decide +kernel
theorem dX3_low_40 : decode cX3_low 40 = .ok (.invokestatic 175, 3) := by decide +kernel
theorem dX3_low_43 : decode cX3_low 43 = .ok (.invokevirtual 172, 3) := by decide +kernel
theorem dX3_low_46 : decode cX3_low 46 = .ok (.ifCond .eq 5, 3) := by decide +kernel
theorem dX3_low_49 : decode cX3_low 49 = .ok (.iconst 0, 1) := by decide +kernel
theorem dX3_low_50 : decode cX3_low 50 = .ok (.ireturn, 1) := by decide +kernel
theorem dX3_low_51 : decode cX3_low 51 = .ok (.iinc 3 1, 3) := by decide +kernel
theorem dX3_low_54 : decode cX3_low 54 = .ok (.goto (-39), 3) := by decide +kernel
theorem dX3_low_57 : decode cX3_low 57 = .ok (.iinc 2 1, 3) := by decide +kernel
theorem dX3_low_60 : decode cX3_low 60 = .ok (.goto (-53), 3) := by decide +kernel
theorem dX3_low_63 : decode cX3_low 63 = .ok (.iconst 1, 1) := by decide +kernel
theorem dX3_low_64 : decode cX3_low 64 = .ok (.ireturn, 1) := by decide +kernel
theorem dX3_at_0 : decode cX3_at 0 = .ok (.aload_n 0, 1) := by decide +kernel
theorem dX3_at_1 : decode cX3_at 1 = .ok (.iload_n 1, 1) := by decide +kernel
theorem dX3_at_2 : decode cX3_at 2 = .ok (.invokevirtual 98, 3) := by decide +kernel
theorem dX3_at_5 : decode cX3_at 5 = .ok (.iload_n 2, 1) := by decide +kernel
theorem dX3_at_6 : decode cX3_at 6 = .ok (.ifCond .lt 19, 3) := by decide +kernel
theorem dX3_at_9 : decode cX3_at 9 = .ok (.iload_n 2, 1) := by decide +kernel
theorem dX3_at_10 : decode cX3_at 10 = .ok (.bipush 6, 2) := by decide +kernel
theorem dX3_at_12 : decode cX3_at 12 = .ok (.if_icmp .gt 13, 3) := by decide +kernel
theorem dX3_at_15 : decode cX3_at 15 = .ok (.iload_n 3, 1) := by decide +kernel
theorem dX3_at_16 : decode cX3_at 16 = .ok (.ifCond .lt 9, 3) := by decide +kernel
theorem dX3_at_19 : decode cX3_at 19 = .ok (.iload_n 3, 1) := by decide +kernel
theorem dX3_at_20 : decode cX3_at 20 = .ok (.bipush 6, 2) := by decide +kernel
theorem dX3_at_22 : decode cX3_at 22 = .ok (.if_icmp .le 13, 3) := by decide +kernel
theorem dX3_at_25 : decode cX3_at 25 = .ok (.new 102, 3) := by decide +kernel
theorem dX3_at_28 : decode cX3_at 28 = .ok (.dup, 1) := by decide +kernel
theorem dX3_at_29 : decode cX3_at 29 = .ok (.ldc 179, 2) := by decide +kernel
theorem dX3_at_31 : decode cX3_at 31 = .ok (.invokespecial 106, 3) := by decide +kernel
theorem dX3_at_34 : decode cX3_at 34 = .ok (.athrow, 1) := by decide +kernel
theorem dX3_at_35 : decode cX3_at 35 = .ok (.iload 4, 2) := by decide +kernel
theorem dX3_at_37 : decode cX3_at 37 = .ok (.ifCond .eq 19, 3) := by decide +kernel
theorem dX3_at_40 : decode cX3_at 40 = .ok (.iload 4, 2) := by decide +kernel
theorem dX3_at_42 : decode cX3_at 42 = .ok (.iconst 1, 1) := by decide +kernel
theorem dX3_at_43 : decode cX3_at 43 = .ok (.if_icmp .eq 13, 3) := by decide +kernel
theorem dX3_at_46 : decode cX3_at 46 = .ok (.new 102, 3) := by decide +kernel
theorem dX3_at_49 : decode cX3_at 49 = .ok (.dup, 1) := by decide +kernel
theorem dX3_at_50 : decode cX3_at 50 = .ok (.ldc 181, 2) := by decide +kernel
theorem dX3_at_52 : decode cX3_at 52 = .ok (.invokespecial 106, 3) := by decide +kernel
theorem dX3_at_55 : decode cX3_at 55 = .ok (.athrow, 1) := by decide +kernel
theorem dX3_at_56 : decode cX3_at 56 = .ok (.aload_n 0, 1) := by decide +kernel
theorem dX3_at_57 : decode cX3_at 57 = .ok (.iload_n 1, 1) := by decide +kernel
theorem dX3_at_58 : decode cX3_at 58 = .ok (.iload 4, 2) := by decide +kernel
theorem dX3_at_60 : decode cX3_at 60 = .ok (.iload_n 2, 1) := by decide +kernel
theorem dX3_at_61 : decode cX3_at 61 = .ok (.iload_n 3, 1) := by decide +kernel
theorem dX3_at_62 : decode cX3_at 62 = .ok (.invokestatic 175, 3) := by decide +kernel
theorem dX3_at_65 : decode cX3_at 65 = .ok (.invokevirtual 172, 3) := by decide +kernel
theorem dX3_at_68 : decode cX3_at 68 = .ok (.ireturn, 1) := by decide +kernel
theorem dX3_count_0 : decode cX3_count 0 = .ok (.aload_n 0, 1) := by decide +kernel
theorem dX3_count_1 : decode cX3_count 1 = .ok (.getfield 13, 3) := by decide +kernel
theorem dX3_count_4 : decode cX3_count 4 = .ok (.ireturn, 1) := by decide +kernel
theorem dX3_requireElement_0 : decode cX3_requireElement 0 = .ok (.iload_n 1, 1) := by decide +kernel
theorem dX3_requireElement_1 : decode cX3_requireElement 1 = .ok (.ifCond .lt 11, 3) := by decide +kernel
theorem dX3_requireElement_4 : decode cX3_requireElement 4 = .ok (.iload_n 1, 1) := by decide +kernel
theorem dX3_requireElement_5 : decode cX3_requireElement 5 = .ok (.aload_n 0, 1) := by decide +kernel
theorem dX3_requireElement_6 : decode cX3_requireElement 6 = .ok (.getfield 13, 3) := by decide +kernel
theorem dX3_requireElement_9 : decode cX3_requireElement 9 = .ok (.if_icmp .lt 13, 3) := by decide +kernel
theorem dX3_requireElement_12 : decode cX3_requireElement 12 = .ok (.new 183, 3) := by decide +kernel
theorem dX3_requireElement_15 : decode cX3_requireElement 15 = .ok (.dup, 1) := by decide +kernel
theorem dX3_requireElement_16 : decode cX3_requireElement 16 = .ok (.ldc 185, 2) := by decide +kernel
theorem dX3_requireElement_18 : decode cX3_requireElement 18 = .ok (.invokespecial 187, 3) := by decide +kernel
theorem dX3_requireElement_21 : decode cX3_requireElement 21 = .ok (.athrow, 1) := by decide +kernel
theorem dX3_requireElement_22 : decode cX3_requireElement 22 = .ok (.return_, 1) := by decide +kernel
theorem dX3_requireRoom_0 : decode cX3_requireRoom 0 = .ok (.aload_n 0, 1) := by decide +kernel
theorem dX3_requireRoom_1 : decode cX3_requireRoom 1 = .ok (.getfield 13, 3) := by decide +kernel
theorem dX3_requireRoom_4 : decode cX3_requireRoom 4 = .ok (.bipush 120, 2) := by decide +kernel
theorem dX3_requireRoom_6 : decode cX3_requireRoom 6 = .ok (.if_icmp .lt 13, 3) := by decide +kernel
theorem dX3_requireRoom_9 : decode cX3_requireRoom 9 = .ok (.new 188, 3) := by decide +kernel
theorem dX3_requireRoom_12 : decode cX3_requireRoom 12 = .ok (.dup, 1) := by decide +kernel
theorem dX3_requireRoom_13 : decode cX3_requireRoom 13 = .ok (.ldc 190, 2) := by decide +kernel
theorem dX3_requireRoom_15 : decode cX3_requireRoom 15 = .ok (.invokespecial 192, 3) := by decide +kernel
theorem dX3_requireRoom_18 : decode cX3_requireRoom 18 = .ok (.athrow, 1) := by decide +kernel
theorem dX3_requireRoom_19 : decode cX3_requireRoom 19 = .ok (.return_, 1) := by decide +kernel
theorem dX3_place_0 : decode cX3_place 0 = .ok (.iload_n 0, 1) := by decide +kernel
theorem dX3_place_1 : decode cX3_place 1 = .ok (.iconst 2, 1) := by decide +kernel
theorem dX3_place_2 : decode cX3_place 2 = .ok (.imul, 1) := by decide +kernel
theorem dX3_place_3 : decode cX3_place 3 = .ok (.iload_n 1, 1) := by decide +kernel
theorem dX3_place_4 : decode cX3_place 4 = .ok (.iadd, 1) := by decide +kernel
theorem dX3_place_5 : decode cX3_place 5 = .ok (.bipush 7, 2) := by decide +kernel
theorem dX3_place_7 : decode cX3_place 7 = .ok (.imul, 1) := by decide +kernel
theorem dX3_place_8 : decode cX3_place 8 = .ok (.iload_n 2, 1) := by decide +kernel
theorem dX3_place_9 : decode cX3_place 9 = .ok (.iadd, 1) := by decide +kernel
theorem dX3_place_10 : decode cX3_place 10 = .ok (.bipush 7, 2) := by decide +kernel
theorem dX3_place_12 : decode cX3_place 12 = .ok (.imul, 1) := by decide +kernel
theorem dX3_place_13 : decode cX3_place 13 = .ok (.iload_n 3, 1) := by decide +kernel
theorem dX3_place_14 : decode cX3_place 14 = .ok (.iadd, 1) := by decide +kernel
theorem dX3_place_15 : decode cX3_place 15 = .ok (.ireturn, 1) := by decide +kernel
theorem dX3_stored_0 : decode cX3_stored 0 = .ok (.iload_n 1, 1) := by decide +kernel
theorem dX3_stored_1 : decode cX3_stored 1 = .ok (.ifCond .lt 21, 3) := by decide +kernel
theorem dX3_stored_4 : decode cX3_stored 4 = .ok (.iload_n 1, 1) := by decide +kernel
theorem dX3_stored_5 : decode cX3_stored 5 = .ok (.aload_n 0, 1) := by decide +kernel
theorem dX3_stored_6 : decode cX3_stored 6 = .ok (.getfield 9, 3) := by decide +kernel
theorem dX3_stored_9 : decode cX3_stored 9 = .ok (.arraylength, 1) := by decide +kernel
theorem dX3_stored_10 : decode cX3_stored 10 = .ok (.if_icmp .ge 12, 3) := by decide +kernel
theorem dX3_stored_13 : decode cX3_stored 13 = .ok (.aload_n 0, 1) := by decide +kernel
theorem dX3_stored_14 : decode cX3_stored 14 = .ok (.getfield 9, 3) := by decide +kernel
theorem dX3_stored_17 : decode cX3_stored 17 = .ok (.iload_n 1, 1) := by decide +kernel
theorem dX3_stored_18 : decode cX3_stored 18 = .ok (.iaload, 1) := by decide +kernel
theorem dX3_stored_19 : decode cX3_stored 19 = .ok (.goto 4, 3) := by decide +kernel
theorem dX3_stored_22 : decode cX3_stored 22 = .ok (.iconst 0, 1) := by decide +kernel
theorem dX3_stored_23 : decode cX3_stored 23 = .ok (.ireturn, 1) := by decide +kernel
theorem dX3_store_0 : decode cX3_store 0 = .ok (.iload_n 1, 1) := by decide +kernel
theorem dX3_store_1 : decode cX3_store 1 = .ok (.ifCond .lt 19, 3) := by decide +kernel
theorem dX3_store_4 : decode cX3_store 4 = .ok (.iload_n 1, 1) := by decide +kernel
theorem dX3_store_5 : decode cX3_store 5 = .ok (.aload_n 0, 1) := by decide +kernel
theorem dX3_store_6 : decode cX3_store 6 = .ok (.getfield 9, 3) := by decide +kernel
theorem dX3_store_9 : decode cX3_store 9 = .ok (.arraylength, 1) := by decide +kernel
theorem dX3_store_10 : decode cX3_store 10 = .ok (.if_icmp .ge 10, 3) := by decide +kernel
theorem dX3_store_13 : decode cX3_store 13 = .ok (.aload_n 0, 1) := by decide +kernel
theorem dX3_store_14 : decode cX3_store 14 = .ok (.getfield 9, 3) := by decide +kernel
theorem dX3_store_17 : decode cX3_store 17 = .ok (.iload_n 1, 1) := by decide +kernel
theorem dX3_store_18 : decode cX3_store 18 = .ok (.iload_n 2, 1) := by decide +kernel
theorem dX3_store_19 : decode cX3_store 19 = .ok (.iastore, 1) := by decide +kernel
theorem dX3_store_20 : decode cX3_store 20 = .ok (.return_, 1) := by decide +kernel
theorem dX3_load_0 : decode cX3_load 0 = .ok (.aload_n 3, 1) := by decide +kernel
theorem dX3_load_1 : decode cX3_load 1 = .ok (.invokevirtual 130, 3) := by decide +kernel
theorem dX3_load_4 : decode cX3_load 4 = .ok (.iconst 0, 1) := by decide +kernel
theorem dX3_load_5 : decode cX3_load 5 = .ok (.istore 4, 2) := by decide +kernel
theorem dX3_load_7 : decode cX3_load 7 = .ok (.iload 4, 2) := by decide +kernel
theorem dX3_load_9 : decode cX3_load 9 = .ok (.bipush 7, 2) := by decide +kernel
theorem dX3_load_11 : decode cX3_load 11 = .ok (.if_icmp .ge 58, 3) := by decide +kernel
theorem dX3_load_14 : decode cX3_load 14 = .ok (.iconst 0, 1) := by decide +kernel
theorem dX3_load_15 : decode cX3_load 15 = .ok (.istore 5, 2) := by decide +kernel
theorem dX3_load_17 : decode cX3_load 17 = .ok (.iload 5, 2) := by decide +kernel
theorem dX3_load_19 : decode cX3_load 19 = .ok (.bipush 7, 2) := by decide +kernel
theorem dX3_load_21 : decode cX3_load 21 = .ok (.if_icmp .ge 42, 3) := by decide +kernel
theorem dX3_load_24 : decode cX3_load 24 = .ok (.aload_n 0, 1) := by decide +kernel
theorem dX3_load_25 : decode cX3_load 25 = .ok (.iload_n 1, 1) := by decide +kernel
theorem dX3_load_26 : decode cX3_load 26 = .ok (.iload_n 2, 1) := by decide +kernel
theorem dX3_load_27 : decode cX3_load 27 = .ok (.iload 4, 2) := by decide +kernel
theorem dX3_load_29 : decode cX3_load 29 = .ok (.iload 5, 2) := by decide +kernel
theorem dX3_load_31 : decode cX3_load 31 = .ok (.invokestatic 175, 3) := by decide +kernel
theorem dX3_load_34 : decode cX3_load 34 = .ok (.invokevirtual 172, 3) := by decide +kernel
theorem dX3_load_37 : decode cX3_load 37 = .ok (.istore 6, 2) := by decide +kernel
theorem dX3_load_39 : decode cX3_load 39 = .ok (.iload 6, 2) := by decide +kernel
theorem dX3_load_41 : decode cX3_load 41 = .ok (.ifCond .eq 16, 3) := by decide +kernel
theorem dX3_load_44 : decode cX3_load 44 = .ok (.aload_n 3, 1) := by decide +kernel
theorem dX3_load_45 : decode cX3_load 45 = .ok (.iload 4, 2) := by decide +kernel
theorem dX3_load_47 : decode cX3_load 47 = .ok (.invokevirtual 68, 3) := by decide +kernel
theorem dX3_load_50 : decode cX3_load 50 = .ok (.iload 5, 2) := by decide +kernel
theorem dX3_load_52 : decode cX3_load 52 = .ok (.iload 6, 2) := by decide +kernel
theorem dX3_load_54 : decode cX3_load 54 = .ok (.invokevirtual 72, 3) := by decide +kernel
theorem dX3_load_57 : decode cX3_load 57 = .ok (.iinc 5 1, 3) := by decide +kernel
theorem dX3_load_60 : decode cX3_load 60 = .ok (.goto (-43), 3) := by decide +kernel
theorem dX3_load_63 : decode cX3_load 63 = .ok (.iinc 4 1, 3) := by decide +kernel
theorem dX3_load_66 : decode cX3_load 66 = .ok (.goto (-59), 3) := by decide +kernel
theorem dX3_load_69 : decode cX3_load 69 = .ok (.return_, 1) := by decide +kernel
theorem dX3_takeTwo_0 : decode cX3_takeTwo 0 = .ok (.aload_n 0, 1) := by decide +kernel
theorem dX3_takeTwo_1 : decode cX3_takeTwo 1 = .ok (.iload_n 1, 1) := by decide +kernel
theorem dX3_takeTwo_2 : decode cX3_takeTwo 2 = .ok (.invokevirtual 98, 3) := by decide +kernel
theorem dX3_takeTwo_5 : decode cX3_takeTwo 5 = .ok (.aload_n 0, 1) := by decide +kernel
theorem dX3_takeTwo_6 : decode cX3_takeTwo 6 = .ok (.iload_n 2, 1) := by decide +kernel
theorem dX3_takeTwo_7 : decode cX3_takeTwo 7 = .ok (.invokevirtual 98, 3) := by decide +kernel
theorem dX3_takeTwo_10 : decode cX3_takeTwo 10 = .ok (.aload_n 0, 1) := by decide +kernel
theorem dX3_takeTwo_11 : decode cX3_takeTwo 11 = .ok (.invokevirtual 76, 3) := by decide +kernel
theorem dX3_takeTwo_14 : decode cX3_takeTwo 14 = .ok (.aload_n 0, 1) := by decide +kernel
theorem dX3_takeTwo_15 : decode cX3_takeTwo 15 = .ok (.iload_n 1, 1) := by decide +kernel
theorem dX3_takeTwo_16 : decode cX3_takeTwo 16 = .ok (.iconst 0, 1) := by decide +kernel
theorem dX3_takeTwo_17 : decode cX3_takeTwo 17 = .ok (.aload_n 0, 1) := by decide +kernel
theorem dX3_takeTwo_18 : decode cX3_takeTwo 18 = .ok (.getfield 33, 3) := by decide +kernel
theorem dX3_takeTwo_21 : decode cX3_takeTwo 21 = .ok (.invokevirtual 150, 3) := by decide +kernel
theorem dX3_takeTwo_24 : decode cX3_takeTwo 24 = .ok (.aload_n 0, 1) := by decide +kernel
theorem dX3_takeTwo_25 : decode cX3_takeTwo 25 = .ok (.iload_n 1, 1) := by decide +kernel
theorem dX3_takeTwo_26 : decode cX3_takeTwo 26 = .ok (.iconst 1, 1) := by decide +kernel
theorem dX3_takeTwo_27 : decode cX3_takeTwo 27 = .ok (.aload_n 0, 1) := by decide +kernel
theorem dX3_takeTwo_28 : decode cX3_takeTwo 28 = .ok (.getfield 37, 3) := by decide +kernel
theorem dX3_takeTwo_31 : decode cX3_takeTwo 31 = .ok (.invokevirtual 150, 3) := by decide +kernel
theorem dX3_takeTwo_34 : decode cX3_takeTwo 34 = .ok (.aload_n 0, 1) := by decide +kernel
theorem dX3_takeTwo_35 : decode cX3_takeTwo 35 = .ok (.iload_n 2, 1) := by decide +kernel
theorem dX3_takeTwo_36 : decode cX3_takeTwo 36 = .ok (.iconst 0, 1) := by decide +kernel
theorem dX3_takeTwo_37 : decode cX3_takeTwo 37 = .ok (.aload_n 0, 1) := by decide +kernel
theorem dX3_takeTwo_38 : decode cX3_takeTwo 38 = .ok (.getfield 40, 3) := by decide +kernel
theorem dX3_takeTwo_41 : decode cX3_takeTwo 41 = .ok (.invokevirtual 150, 3) := by decide +kernel
theorem dX3_takeTwo_44 : decode cX3_takeTwo 44 = .ok (.aload_n 0, 1) := by decide +kernel
theorem dX3_takeTwo_45 : decode cX3_takeTwo 45 = .ok (.iload_n 2, 1) := by decide +kernel
theorem dX3_takeTwo_46 : decode cX3_takeTwo 46 = .ok (.iconst 1, 1) := by decide +kernel
theorem dX3_takeTwo_47 : decode cX3_takeTwo 47 = .ok (.aload_n 0, 1) := by decide +kernel
theorem dX3_takeTwo_48 : decode cX3_takeTwo 48 = .ok (.getfield 43, 3) := by decide +kernel
theorem dX3_takeTwo_51 : decode cX3_takeTwo 51 = .ok (.invokevirtual 150, 3) := by decide +kernel
theorem dX3_takeTwo_54 : decode cX3_takeTwo 54 = .ok (.return_, 1) := by decide +kernel
theorem dX3_sumUp_0 : decode cX3_sumUp 0 = .ok (.aload_n 0, 1) := by decide +kernel
theorem dX3_sumUp_1 : decode cX3_sumUp 1 = .ok (.getfield 52, 3) := by decide +kernel
theorem dX3_sumUp_4 : decode cX3_sumUp 4 = .ok (.invokevirtual 130, 3) := by decide +kernel
theorem dX3_sumUp_7 : decode cX3_sumUp 7 = .ok (.aload_n 0, 1) := by decide +kernel
theorem dX3_sumUp_8 : decode cX3_sumUp 8 = .ok (.getfield 52, 3) := by decide +kernel
theorem dX3_sumUp_11 : decode cX3_sumUp 11 = .ok (.aload_n 0, 1) := by decide +kernel
theorem dX3_sumUp_12 : decode cX3_sumUp 12 = .ok (.getfield 33, 3) := by decide +kernel
theorem dX3_sumUp_15 : decode cX3_sumUp 15 = .ok (.aload_n 0, 1) := by decide +kernel
theorem dX3_sumUp_16 : decode cX3_sumUp 16 = .ok (.getfield 43, 3) := by decide +kernel
theorem dX3_sumUp_19 : decode cX3_sumUp 19 = .ok (.iconst 1, 1) := by decide +kernel
theorem dX3_sumUp_20 : decode cX3_sumUp 20 = .ok (.invokevirtual 133, 3) := by decide +kernel
theorem dX3_sumUp_23 : decode cX3_sumUp 23 = .ok (.aload_n 0, 1) := by decide +kernel
theorem dX3_sumUp_24 : decode cX3_sumUp 24 = .ok (.getfield 52, 3) := by decide +kernel
theorem dX3_sumUp_27 : decode cX3_sumUp 27 = .ok (.aload_n 0, 1) := by decide +kernel
theorem dX3_sumUp_28 : decode cX3_sumUp 28 = .ok (.getfield 40, 3) := by decide +kernel
theorem dX3_sumUp_31 : decode cX3_sumUp 31 = .ok (.aload_n 0, 1) := by decide +kernel
theorem dX3_sumUp_32 : decode cX3_sumUp 32 = .ok (.getfield 37, 3) := by decide +kernel
theorem dX3_sumUp_35 : decode cX3_sumUp 35 = .ok (.iload_n 1, 1) := by decide +kernel
theorem dX3_sumUp_36 : decode cX3_sumUp 36 = .ok (.invokevirtual 133, 3) := by decide +kernel
theorem dX3_sumUp_39 : decode cX3_sumUp 39 = .ok (.aload_n 0, 1) := by decide +kernel
theorem dX3_sumUp_40 : decode cX3_sumUp 40 = .ok (.getfield 55, 3) := by decide +kernel
theorem dX3_sumUp_43 : decode cX3_sumUp 43 = .ok (.invokevirtual 130, 3) := by decide +kernel
theorem dX3_sumUp_46 : decode cX3_sumUp 46 = .ok (.aload_n 0, 1) := by decide +kernel
theorem dX3_sumUp_47 : decode cX3_sumUp 47 = .ok (.getfield 55, 3) := by decide +kernel
theorem dX3_sumUp_50 : decode cX3_sumUp 50 = .ok (.aload_n 0, 1) := by decide +kernel
theorem dX3_sumUp_51 : decode cX3_sumUp 51 = .ok (.getfield 37, 3) := by decide +kernel
theorem dX3_sumUp_54 : decode cX3_sumUp 54 = .ok (.aload_n 0, 1) := by decide +kernel
theorem dX3_sumUp_55 : decode cX3_sumUp 55 = .ok (.getfield 43, 3) := by decide +kernel
theorem dX3_sumUp_58 : decode cX3_sumUp 58 = .ok (.iconst 1, 1) := by decide +kernel
theorem dX3_sumUp_59 : decode cX3_sumUp 59 = .ok (.invokevirtual 133, 3) := by decide +kernel
theorem dX3_sumUp_62 : decode cX3_sumUp 62 = .ok (.return_, 1) := by decide +kernel
theorem dX3_keepSingle_0 : decode cX3_keepSingle 0 = .ok (.aload_n 0, 1) := by decide +kernel
theorem dX3_keepSingle_1 : decode cX3_keepSingle 1 = .ok (.getfield 52, 3) := by decide +kernel
theorem dX3_keepSingle_4 : decode cX3_keepSingle 4 = .ok (.invokevirtual 130, 3) := by decide +kernel
theorem dX3_keepSingle_7 : decode cX3_keepSingle 7 = .ok (.aload_n 0, 1) := by decide +kernel
theorem dX3_keepSingle_8 : decode cX3_keepSingle 8 = .ok (.getfield 52, 3) := by decide +kernel
theorem dX3_keepSingle_11 : decode cX3_keepSingle 11 = .ok (.iload_n 1, 1) := by decide +kernel
theorem dX3_keepSingle_12 : decode cX3_keepSingle 12 = .ok (.invokevirtual 68, 3) := by decide +kernel
theorem dX3_keepSingle_15 : decode cX3_keepSingle 15 = .ok (.iload_n 2, 1) := by decide +kernel
theorem dX3_keepSingle_16 : decode cX3_keepSingle 16 = .ok (.iload_n 3, 1) := by decide +kernel
theorem dX3_keepSingle_17 : decode cX3_keepSingle 17 = .ok (.invokevirtual 72, 3) := by decide +kernel
theorem dX3_keepSingle_20 : decode cX3_keepSingle 20 = .ok (.aload_n 0, 1) := by decide +kernel
theorem dX3_keepSingle_21 : decode cX3_keepSingle 21 = .ok (.aload_n 0, 1) := by decide +kernel
theorem dX3_keepSingle_22 : decode cX3_keepSingle 22 = .ok (.getfield 52, 3) := by decide +kernel
theorem dX3_keepSingle_25 : decode cX3_keepSingle 25 = .ok (.aload_n 0, 1) := by decide +kernel
theorem dX3_keepSingle_26 : decode cX3_keepSingle 26 = .ok (.getfield 58, 3) := by decide +kernel
theorem dX3_keepSingle_29 : decode cX3_keepSingle 29 = .ok (.invokevirtual 162, 3) := by decide +kernel
theorem dX3_keepSingle_32 : decode cX3_keepSingle 32 = .ok (.ireturn, 1) := by decide +kernel
theorem dX3_keepLowest_0 : decode cX3_keepLowest 0 = .ok (.aload_n 0, 1) := by decide +kernel
theorem dX3_keepLowest_1 : decode cX3_keepLowest 1 = .ok (.getfield 64, 3) := by decide +kernel
theorem dX3_keepLowest_4 : decode cX3_keepLowest 4 = .ok (.aload_n 0, 1) := by decide +kernel
theorem dX3_keepLowest_5 : decode cX3_keepLowest 5 = .ok (.getfield 52, 3) := by decide +kernel
theorem dX3_keepLowest_8 : decode cX3_keepLowest 8 = .ok (.aload_n 0, 1) := by decide +kernel
theorem dX3_keepLowest_9 : decode cX3_keepLowest 9 = .ok (.getfield 55, 3) := by decide +kernel
theorem dX3_keepLowest_12 : decode cX3_keepLowest 12 = .ok (.invokevirtual 166, 3) := by decide +kernel
theorem dX3_keepLowest_15 : decode cX3_keepLowest 15 = .ok (.aload_n 0, 1) := by decide +kernel
theorem dX3_keepLowest_16 : decode cX3_keepLowest 16 = .ok (.getfield 64, 3) := by decide +kernel
theorem dX3_keepLowest_19 : decode cX3_keepLowest 19 = .ok (.getfield 193, 3) := by decide +kernel
theorem dX3_keepLowest_22 : decode cX3_keepLowest 22 = .ok (.astore_n 1, 1) := by decide +kernel
theorem dX3_keepLowest_23 : decode cX3_keepLowest 23 = .ok (.aload_n 0, 1) := by decide +kernel
theorem dX3_keepLowest_24 : decode cX3_keepLowest 24 = .ok (.getfield 64, 3) := by decide +kernel
theorem dX3_keepLowest_27 : decode cX3_keepLowest 27 = .ok (.getfield 196, 3) := by decide +kernel
theorem dX3_keepLowest_30 : decode cX3_keepLowest 30 = .ok (.astore_n 2, 1) := by decide +kernel
theorem dX3_keepLowest_31 : decode cX3_keepLowest 31 = .ok (.aload_n 2, 1) := by decide +kernel
theorem dX3_keepLowest_32 : decode cX3_keepLowest 32 = .ok (.invokevirtual 199, 3) := by decide +kernel
theorem dX3_keepLowest_35 : decode cX3_keepLowest 35 = .ok (.invokestatic 90, 3) := by decide +kernel
theorem dX3_keepLowest_38 : decode cX3_keepLowest 38 = .ok (.istore_n 3, 1) := by decide +kernel
theorem dX3_keepLowest_39 : decode cX3_keepLowest 39 = .ok (.aload_n 1, 1) := by decide +kernel
theorem dX3_keepLowest_40 : decode cX3_keepLowest 40 = .ok (.iload_n 3, 1) := by decide +kernel
theorem dX3_keepLowest_41 : decode cX3_keepLowest 41 = .ok (.invokevirtual 202, 3) := by decide +kernel
theorem dX3_keepLowest_44 : decode cX3_keepLowest 44 = .ok (.aload_n 2, 1) := by decide +kernel
theorem dX3_keepLowest_45 : decode cX3_keepLowest 45 = .ok (.iload_n 3, 1) := by decide +kernel
theorem dX3_keepLowest_46 : decode cX3_keepLowest 46 = .ok (.invokevirtual 202, 3) := by decide +kernel
theorem dX3_keepLowest_49 : decode cX3_keepLowest 49 = .ok (.aload_n 1, 1) := by decide +kernel
theorem dX3_keepLowest_50 : decode cX3_keepLowest 50 = .ok (.invokestatic 205, 3) := by decide +kernel
theorem dX3_keepLowest_53 : decode cX3_keepLowest 53 = .ok (.ifCond .ne 10, 3) := by decide +kernel
theorem dX3_keepLowest_56 : decode cX3_keepLowest 56 = .ok (.aload_n 2, 1) := by decide +kernel
theorem dX3_keepLowest_57 : decode cX3_keepLowest 57 = .ok (.invokestatic 205, 3) := by decide +kernel
theorem dX3_keepLowest_60 : decode cX3_keepLowest 60 = .ok (.ifCond .eq 13, 3) := by decide +kernel
theorem dX3_keepLowest_63 : decode cX3_keepLowest 63 = .ok (.new 188, 3) := by decide +kernel
theorem dX3_keepLowest_66 : decode cX3_keepLowest 66 = .ok (.dup, 1) := by decide +kernel
theorem dX3_keepLowest_67 : decode cX3_keepLowest 67 = .ok (.ldc 209, 2) := by decide +kernel
theorem dX3_keepLowest_69 : decode cX3_keepLowest 69 = .ok (.invokespecial 192, 3) := by decide +kernel
theorem dX3_keepLowest_72 : decode cX3_keepLowest 72 = .ok (.athrow, 1) := by decide +kernel
theorem dX3_keepLowest_73 : decode cX3_keepLowest 73 = .ok (.aload_n 0, 1) := by decide +kernel
theorem dX3_keepLowest_74 : decode cX3_keepLowest 74 = .ok (.aload_n 1, 1) := by decide +kernel
theorem dX3_keepLowest_75 : decode cX3_keepLowest 75 = .ok (.aload_n 2, 1) := by decide +kernel
theorem dX3_keepLowest_76 : decode cX3_keepLowest 76 = .ok (.invokevirtual 162, 3) := by decide +kernel
theorem dX3_keepLowest_79 : decode cX3_keepLowest 79 = .ok (.ireturn, 1) := by decide +kernel
theorem dX3_isTooGreat_0 : decode cX3_isTooGreat 0 = .ok (.aload_n 0, 1) := by decide +kernel
theorem dX3_isTooGreat_1 : decode cX3_isTooGreat 1 = .ok (.invokevirtual 211, 3) := by decide +kernel
theorem dX3_isTooGreat_4 : decode cX3_isTooGreat 4 = .ok (.bipush 6, 2) := by decide +kernel
theorem dX3_isTooGreat_6 : decode cX3_isTooGreat 6 = .ok (.if_icmp .gt 12, 3) := by decide +kernel
theorem dX3_isTooGreat_9 : decode cX3_isTooGreat 9 = .ok (.aload_n 0, 1) := by decide +kernel
theorem dX3_isTooGreat_10 : decode cX3_isTooGreat 10 = .ok (.invokevirtual 214, 3) := by decide +kernel
theorem dX3_isTooGreat_13 : decode cX3_isTooGreat 13 = .ok (.bipush 6, 2) := by decide +kernel
theorem dX3_isTooGreat_15 : decode cX3_isTooGreat 15 = .ok (.if_icmp .le 7, 3) := by decide +kernel
theorem dX3_isTooGreat_18 : decode cX3_isTooGreat 18 = .ok (.iconst 1, 1) := by decide +kernel
theorem dX3_isTooGreat_19 : decode cX3_isTooGreat 19 = .ok (.goto 4, 3) := by decide +kernel
theorem dX3_isTooGreat_22 : decode cX3_isTooGreat 22 = .ok (.iconst 0, 1) := by decide +kernel
theorem dX3_isTooGreat_23 : decode cX3_isTooGreat 23 = .ok (.ireturn, 1) := by decide +kernel
theorem dX3_keep_0 : decode cX3_keep 0 = .ok (.iconst 0, 1) := by decide +kernel
theorem dX3_keep_1 : decode cX3_keep 1 = .ok (.istore_n 3, 1) := by decide +kernel
theorem dX3_keep_2 : decode cX3_keep 2 = .ok (.iload_n 3, 1) := by decide +kernel
theorem dX3_keep_3 : decode cX3_keep 3 = .ok (.bipush 7, 2) := by decide +kernel
theorem dX3_keep_5 : decode cX3_keep 5 = .ok (.if_icmp .ge 75, 3) := by decide +kernel
theorem dX3_keep_8 : decode cX3_keep 8 = .ok (.iconst 0, 1) := by decide +kernel
theorem dX3_keep_9 : decode cX3_keep 9 = .ok (.istore 4, 2) := by decide +kernel
theorem dX3_keep_11 : decode cX3_keep 11 = .ok (.iload 4, 2) := by decide +kernel
theorem dX3_keep_13 : decode cX3_keep 13 = .ok (.bipush 7, 2) := by decide +kernel
theorem dX3_keep_15 : decode cX3_keep 15 = .ok (.if_icmp .ge 59, 3) := by decide +kernel
theorem dX3_keep_18 : decode cX3_keep 18 = .ok (.aload_n 0, 1) := by decide +kernel
theorem dX3_keep_19 : decode cX3_keep 19 = .ok (.aload_n 0, 1) := by decide +kernel
theorem dX3_keep_20 : decode cX3_keep 20 = .ok (.getfield 13, 3) := by decide +kernel
theorem dX3_keep_23 : decode cX3_keep 23 = .ok (.iconst 0, 1) := by decide +kernel
theorem dX3_keep_24 : decode cX3_keep 24 = .ok (.iload_n 3, 1) := by decide +kernel
theorem dX3_keep_25 : decode cX3_keep 25 = .ok (.iload 4, 2) := by decide +kernel
theorem dX3_keep_27 : decode cX3_keep 27 = .ok (.invokestatic 175, 3) := by decide +kernel
theorem dX3_keep_30 : decode cX3_keep 30 = .ok (.aload_n 1, 1) := by decide +kernel
theorem dX3_keep_31 : decode cX3_keep 31 = .ok (.iload_n 3, 1) := by decide +kernel
theorem dX3_keep_32 : decode cX3_keep 32 = .ok (.invokevirtual 68, 3) := by decide +kernel
theorem dX3_keep_35 : decode cX3_keep 35 = .ok (.iload 4, 2) := by decide +kernel
theorem dX3_keep_37 : decode cX3_keep 37 = .ok (.invokevirtual 217, 3) := by decide +kernel
theorem dX3_keep_40 : decode cX3_keep 40 = .ok (.invokevirtual 220, 3) := by decide +kernel
theorem dX3_keep_43 : decode cX3_keep 43 = .ok (.aload_n 0, 1) := by decide +kernel
theorem dX3_keep_44 : decode cX3_keep 44 = .ok (.aload_n 0, 1) := by decide +kernel
theorem dX3_keep_45 : decode cX3_keep 45 = .ok (.getfield 13, 3) := by decide +kernel
theorem dX3_keep_48 : decode cX3_keep 48 = .ok (.iconst 1, 1) := by decide +kernel
theorem dX3_keep_49 : decode cX3_keep 49 = .ok (.iload_n 3, 1) := by decide +kernel
theorem dX3_keep_50 : decode cX3_keep 50 = .ok (.iload 4, 2) := by decide +kernel
theorem dX3_keep_52 : decode cX3_keep 52 = .ok (.invokestatic 175, 3) := by decide +kernel
theorem dX3_keep_55 : decode cX3_keep 55 = .ok (.aload_n 2, 1) := by decide +kernel
theorem dX3_keep_56 : decode cX3_keep 56 = .ok (.iload_n 3, 1) := by decide +kernel
theorem dX3_keep_57 : decode cX3_keep 57 = .ok (.invokevirtual 68, 3) := by decide +kernel
theorem dX3_keep_60 : decode cX3_keep 60 = .ok (.iload 4, 2) := by decide +kernel
theorem dX3_keep_62 : decode cX3_keep 62 = .ok (.invokevirtual 217, 3) := by decide +kernel
theorem dX3_keep_65 : decode cX3_keep 65 = .ok (.invokevirtual 220, 3) := by decide +kernel
theorem dX3_keep_68 : decode cX3_keep 68 = .ok (.iinc 4 1, 3) := by decide +kernel
theorem dX3_keep_71 : decode cX3_keep 71 = .ok (.goto (-60), 3) := by decide +kernel
theorem dX3_keep_74 : decode cX3_keep 74 = .ok (.iinc 3 1, 3) := by decide +kernel
theorem dX3_keep_77 : decode cX3_keep 77 = .ok (.goto (-75), 3) := by decide +kernel
theorem dX3_keep_80 : decode cX3_keep 80 = .ok (.aload_n 0, 1) := by decide +kernel
theorem dX3_keep_81 : decode cX3_keep 81 = .ok (.dup, 1) := by decide +kernel
theorem dX3_keep_82 : decode cX3_keep 82 = .ok (.getfield 13, 3) := by decide +kernel
theorem dX3_keep_85 : decode cX3_keep 85 = .ok (.iconst 1, 1) := by decide +kernel
theorem dX3_keep_86 : decode cX3_keep 86 = .ok (.iadd, 1) := by decide +kernel
theorem dX3_keep_87 : decode cX3_keep 87 = .ok (.putfield 13, 3) := by decide +kernel
theorem dX3_keep_90 : decode cX3_keep 90 = .ok (.aload_n 0, 1) := by decide +kernel
theorem dX3_keep_91 : decode cX3_keep 91 = .ok (.getfield 13, 3) := by decide +kernel
theorem dX3_keep_94 : decode cX3_keep 94 = .ok (.iconst 1, 1) := by decide +kernel
theorem dX3_keep_95 : decode cX3_keep 95 = .ok (.isub, 1) := by decide +kernel
theorem dX3_keep_96 : decode cX3_keep 96 = .ok (.ireturn, 1) := by decide +kernel
theorem dX3_hasNoSlope_0 : decode cX3_hasNoSlope 0 = .ok (.aload_n 0, 1) := by decide +kernel
theorem dX3_hasNoSlope_1 : decode cX3_hasNoSlope 1 = .ok (.iload_n 1, 1) := by decide +kernel
theorem dX3_hasNoSlope_2 : decode cX3_hasNoSlope 2 = .ok (.invokevirtual 141, 3) := by decide +kernel
theorem dX3_hasNoSlope_5 : decode cX3_hasNoSlope 5 = .ok (.aload_n 0, 1) := by decide +kernel
theorem dX3_hasNoSlope_6 : decode cX3_hasNoSlope 6 = .ok (.getfield 52, 3) := by decide +kernel
theorem dX3_hasNoSlope_9 : decode cX3_hasNoSlope 9 = .ok (.invokevirtual 137, 3) := by decide +kernel
theorem dX3_hasNoSlope_12 : decode cX3_hasNoSlope 12 = .ok (.ireturn, 1) := by decide +kernel
theorem dX3_slopeOfFraction_0 : decode cX3_slopeOfFraction 0 = .ok (.aload_n 0, 1) := by decide +kernel
theorem dX3_slopeOfFraction_1 : decode cX3_slopeOfFraction 1 = .ok (.iload_n 1, 1) := by decide +kernel
theorem dX3_slopeOfFraction_2 : decode cX3_slopeOfFraction 2 = .ok (.iconst 0, 1) := by decide +kernel
theorem dX3_slopeOfFraction_3 : decode cX3_slopeOfFraction 3 = .ok (.aload_n 0, 1) := by decide +kernel
theorem dX3_slopeOfFraction_4 : decode cX3_slopeOfFraction 4 = .ok (.getfield 33, 3) := by decide +kernel
theorem dX3_slopeOfFraction_7 : decode cX3_slopeOfFraction 7 = .ok (.invokevirtual 150, 3) := by decide +kernel
theorem dX3_slopeOfFraction_10 : decode cX3_slopeOfFraction 10 = .ok (.aload_n 0, 1) := by decide +kernel
theorem dX3_slopeOfFraction_11 : decode cX3_slopeOfFraction 11 = .ok (.iload_n 1, 1) := by decide +kernel
theorem dX3_slopeOfFraction_12 : decode cX3_slopeOfFraction 12 = .ok (.iconst 1, 1) := by decide +kernel
theorem dX3_slopeOfFraction_13 : decode cX3_slopeOfFraction 13 = .ok (.aload_n 0, 1) := by decide +kernel
theorem dX3_slopeOfFraction_14 : decode cX3_slopeOfFraction 14 = .ok (.getfield 37, 3) := by decide +kernel
theorem dX3_slopeOfFraction_17 : decode cX3_slopeOfFraction 17 = .ok (.invokevirtual 150, 3) := by decide +kernel
theorem dX3_slopeOfFraction_20 : decode cX3_slopeOfFraction 20 = .ok (.aload_n 0, 1) := by decide +kernel
theorem dX3_slopeOfFraction_21 : decode cX3_slopeOfFraction 21 = .ok (.aload_n 0, 1) := by decide +kernel
theorem dX3_slopeOfFraction_22 : decode cX3_slopeOfFraction 22 = .ok (.getfield 33, 3) := by decide +kernel
theorem dX3_slopeOfFraction_25 : decode cX3_slopeOfFraction 25 = .ok (.aload_n 0, 1) := by decide +kernel
theorem dX3_slopeOfFraction_26 : decode cX3_slopeOfFraction 26 = .ok (.getfield 46, 3) := by decide +kernel
theorem dX3_slopeOfFraction_29 : decode cX3_slopeOfFraction 29 = .ok (.invokevirtual 223, 3) := by decide +kernel
theorem dX3_slopeOfFraction_32 : decode cX3_slopeOfFraction 32 = .ok (.aload_n 0, 1) := by decide +kernel
theorem dX3_slopeOfFraction_33 : decode cX3_slopeOfFraction 33 = .ok (.aload_n 0, 1) := by decide +kernel
theorem dX3_slopeOfFraction_34 : decode cX3_slopeOfFraction 34 = .ok (.getfield 37, 3) := by decide +kernel
theorem dX3_slopeOfFraction_37 : decode cX3_slopeOfFraction 37 = .ok (.aload_n 0, 1) := by decide +kernel
theorem dX3_slopeOfFraction_38 : decode cX3_slopeOfFraction 38 = .ok (.getfield 49, 3) := by decide +kernel
theorem dX3_slopeOfFraction_41 : decode cX3_slopeOfFraction 41 = .ok (.invokevirtual 223, 3) := by decide +kernel
theorem dX3_slopeOfFraction_44 : decode cX3_slopeOfFraction 44 = .ok (.aload_n 0, 1) := by decide +kernel
theorem dX3_slopeOfFraction_45 : decode cX3_slopeOfFraction 45 = .ok (.getfield 52, 3) := by decide +kernel
theorem dX3_slopeOfFraction_48 : decode cX3_slopeOfFraction 48 = .ok (.invokevirtual 130, 3) := by decide +kernel
theorem dX3_slopeOfFraction_51 : decode cX3_slopeOfFraction 51 = .ok (.aload_n 0, 1) := by decide +kernel
theorem dX3_slopeOfFraction_52 : decode cX3_slopeOfFraction 52 = .ok (.getfield 52, 3) := by decide +kernel
theorem dX3_slopeOfFraction_55 : decode cX3_slopeOfFraction 55 = .ok (.aload_n 0, 1) := by decide +kernel
theorem dX3_slopeOfFraction_56 : decode cX3_slopeOfFraction 56 = .ok (.getfield 46, 3) := by decide +kernel
theorem dX3_slopeOfFraction_59 : decode cX3_slopeOfFraction 59 = .ok (.aload_n 0, 1) := by decide +kernel
theorem dX3_slopeOfFraction_60 : decode cX3_slopeOfFraction 60 = .ok (.getfield 37, 3) := by decide +kernel
theorem dX3_slopeOfFraction_63 : decode cX3_slopeOfFraction 63 = .ok (.iconst 1, 1) := by decide +kernel
theorem dX3_slopeOfFraction_64 : decode cX3_slopeOfFraction 64 = .ok (.invokevirtual 133, 3) := by decide +kernel
theorem dX3_slopeOfFraction_67 : decode cX3_slopeOfFraction 67 = .ok (.aload_n 0, 1) := by decide +kernel
theorem dX3_slopeOfFraction_68 : decode cX3_slopeOfFraction 68 = .ok (.getfield 52, 3) := by decide +kernel
theorem dX3_slopeOfFraction_71 : decode cX3_slopeOfFraction 71 = .ok (.aload_n 0, 1) := by decide +kernel
theorem dX3_slopeOfFraction_72 : decode cX3_slopeOfFraction 72 = .ok (.getfield 49, 3) := by decide +kernel
theorem dX3_slopeOfFraction_75 : decode cX3_slopeOfFraction 75 = .ok (.aload_n 0, 1) := by decide +kernel
theorem dX3_slopeOfFraction_76 : decode cX3_slopeOfFraction 76 = .ok (.getfield 33, 3) := by decide +kernel
theorem dX3_slopeOfFraction_79 : decode cX3_slopeOfFraction 79 = .ok (.sipush 32002, 3) := by decide +kernel
theorem dX3_slopeOfFraction_82 : decode cX3_slopeOfFraction 82 = .ok (.invokevirtual 133, 3) := by decide +kernel
theorem dX3_slopeOfFraction_85 : decode cX3_slopeOfFraction 85 = .ok (.return_, 1) := by decide +kernel
theorem dX3_slopeOfPoly_0 : decode cX3_slopeOfPoly 0 = .ok (.aload_n 2, 1) := by decide +kernel
theorem dX3_slopeOfPoly_1 : decode cX3_slopeOfPoly 1 = .ok (.invokevirtual 130, 3) := by decide +kernel
theorem dX3_slopeOfPoly_4 : decode cX3_slopeOfPoly 4 = .ok (.aload_n 0, 1) := by decide +kernel
theorem dX3_slopeOfPoly_5 : decode cX3_slopeOfPoly 5 = .ok (.getfield 17, 3) := by decide +kernel
theorem dX3_slopeOfPoly_8 : decode cX3_slopeOfPoly 8 = .ok (.iconst 1, 1) := by decide +kernel
theorem dX3_slopeOfPoly_9 : decode cX3_slopeOfPoly 9 = .ok (.if_icmp .ne 7, 3) := by decide +kernel
theorem dX3_slopeOfPoly_12 : decode cX3_slopeOfPoly 12 = .ok (.iconst 1, 1) := by decide +kernel
theorem dX3_slopeOfPoly_13 : decode cX3_slopeOfPoly 13 = .ok (.goto 4, 3) := by decide +kernel
theorem dX3_slopeOfPoly_16 : decode cX3_slopeOfPoly 16 = .ok (.iconst 0, 1) := by decide +kernel
theorem dX3_slopeOfPoly_17 : decode cX3_slopeOfPoly 17 = .ok (.istore_n 3, 1) := by decide +kernel
theorem dX3_slopeOfPoly_18 : decode cX3_slopeOfPoly 18 = .ok (.iconst 0, 1) := by decide +kernel
theorem dX3_slopeOfPoly_19 : decode cX3_slopeOfPoly 19 = .ok (.istore 4, 2) := by decide +kernel
theorem dX3_slopeOfPoly_21 : decode cX3_slopeOfPoly 21 = .ok (.iload 4, 2) := by decide +kernel
theorem dX3_slopeOfPoly_23 : decode cX3_slopeOfPoly 23 = .ok (.bipush 7, 2) := by decide +kernel
theorem dX3_slopeOfPoly_25 : decode cX3_slopeOfPoly 25 = .ok (.if_icmp .ge 51, 3) := by decide +kernel
theorem dX3_slopeOfPoly_28 : decode cX3_slopeOfPoly 28 = .ok (.aload_n 1, 1) := by decide +kernel
theorem dX3_slopeOfPoly_29 : decode cX3_slopeOfPoly 29 = .ok (.iload 4, 2) := by decide +kernel
theorem dX3_slopeOfPoly_31 : decode cX3_slopeOfPoly 31 = .ok (.invokevirtual 68, 3) := by decide +kernel
theorem dX3_slopeOfPoly_34 : decode cX3_slopeOfPoly 34 = .ok (.astore 5, 2) := by decide +kernel
theorem dX3_slopeOfPoly_36 : decode cX3_slopeOfPoly 36 = .ok (.aload_n 2, 1) := by decide +kernel
theorem dX3_slopeOfPoly_37 : decode cX3_slopeOfPoly 37 = .ok (.iload 4, 2) := by decide +kernel
theorem dX3_slopeOfPoly_39 : decode cX3_slopeOfPoly 39 = .ok (.invokevirtual 68, 3) := by decide +kernel
theorem dX3_slopeOfPoly_42 : decode cX3_slopeOfPoly 42 = .ok (.aload 5, 2) := by decide +kernel
theorem dX3_slopeOfPoly_44 : decode cX3_slopeOfPoly 44 = .ok (.aload_n 0, 1) := by decide +kernel
theorem dX3_slopeOfPoly_45 : decode cX3_slopeOfPoly 45 = .ok (.getfield 27, 3) := by decide +kernel
theorem dX3_slopeOfPoly_48 : decode cX3_slopeOfPoly 48 = .ok (.invokevirtual 226, 3) := by decide +kernel
theorem dX3_slopeOfPoly_51 : decode cX3_slopeOfPoly 51 = .ok (.aload_n 2, 1) := by decide +kernel
theorem dX3_slopeOfPoly_52 : decode cX3_slopeOfPoly 52 = .ok (.iload 4, 2) := by decide +kernel
theorem dX3_slopeOfPoly_54 : decode cX3_slopeOfPoly 54 = .ok (.iload_n 3, 1) := by decide +kernel
theorem dX3_slopeOfPoly_55 : decode cX3_slopeOfPoly 55 = .ok (.isub, 1) := by decide +kernel
theorem dX3_slopeOfPoly_56 : decode cX3_slopeOfPoly 56 = .ok (.invokevirtual 68, 3) := by decide +kernel
theorem dX3_slopeOfPoly_59 : decode cX3_slopeOfPoly 59 = .ok (.aload 5, 2) := by decide +kernel
theorem dX3_slopeOfPoly_61 : decode cX3_slopeOfPoly 61 = .ok (.aload_n 0, 1) := by decide +kernel
theorem dX3_slopeOfPoly_62 : decode cX3_slopeOfPoly 62 = .ok (.getfield 23, 3) := by decide +kernel
theorem dX3_slopeOfPoly_65 : decode cX3_slopeOfPoly 65 = .ok (.iload 4, 2) := by decide +kernel
theorem dX3_slopeOfPoly_67 : decode cX3_slopeOfPoly 67 = .ok (.invokevirtual 230, 3) := by decide +kernel
theorem dX3_slopeOfPoly_70 : decode cX3_slopeOfPoly 70 = .ok (.iinc 4 1, 3) := by decide +kernel
theorem dX3_slopeOfPoly_73 : decode cX3_slopeOfPoly 73 = .ok (.goto (-52), 3) := by decide +kernel
theorem dX3_slopeOfPoly_76 : decode cX3_slopeOfPoly 76 = .ok (.return_, 1) := by decide +kernel
theorem dX3_slopeOverProduct_0 : decode cX3_slopeOverProduct 0 = .ok (.aload_n 0, 1) := by decide +kernel
theorem dX3_slopeOverProduct_1 : decode cX3_slopeOverProduct 1 = .ok (.getfield 46, 3) := by decide +kernel
theorem dX3_slopeOverProduct_4 : decode cX3_slopeOverProduct 4 = .ok (.invokevirtual 130, 3) := by decide +kernel
theorem dX3_slopeOverProduct_7 : decode cX3_slopeOverProduct 7 = .ok (.aload_n 0, 1) := by decide +kernel
theorem dX3_slopeOverProduct_8 : decode cX3_slopeOverProduct 8 = .ok (.getfield 46, 3) := by decide +kernel
theorem dX3_slopeOverProduct_11 : decode cX3_slopeOverProduct 11 = .ok (.aload_n 1, 1) := by decide +kernel
theorem dX3_slopeOverProduct_12 : decode cX3_slopeOverProduct 12 = .ok (.aload_n 2, 1) := by decide +kernel
theorem dX3_slopeOverProduct_13 : decode cX3_slopeOverProduct 13 = .ok (.iconst 1, 1) := by decide +kernel
theorem dX3_slopeOverProduct_14 : decode cX3_slopeOverProduct 14 = .ok (.invokevirtual 133, 3) := by decide +kernel
theorem dX3_slopeOverProduct_17 : decode cX3_slopeOverProduct 17 = .ok (.aload_n 0, 1) := by decide +kernel
theorem dX3_slopeOverProduct_18 : decode cX3_slopeOverProduct 18 = .ok (.getfield 55, 3) := by decide +kernel
theorem dX3_slopeOverProduct_21 : decode cX3_slopeOverProduct 21 = .ok (.invokevirtual 130, 3) := by decide +kernel
theorem dX3_slopeOverProduct_24 : decode cX3_slopeOverProduct 24 = .ok (.iconst 0, 1) := by decide +kernel
theorem dX3_slopeOverProduct_25 : decode cX3_slopeOverProduct 25 = .ok (.istore_n 3, 1) := by decide +kernel
theorem dX3_slopeOverProduct_26 : decode cX3_slopeOverProduct 26 = .ok (.iload_n 3, 1) := by decide +kernel
theorem dX3_slopeOverProduct_27 : decode cX3_slopeOverProduct 27 = .ok (.bipush 13, 2) := by decide +kernel
theorem dX3_slopeOverProduct_29 : decode cX3_slopeOverProduct 29 = .ok (.if_icmp .ge 33, 3) := by decide +kernel
theorem dX3_slopeOverProduct_32 : decode cX3_slopeOverProduct 32 = .ok (.aload_n 0, 1) := by decide +kernel
theorem dX3_slopeOverProduct_33 : decode cX3_slopeOverProduct 33 = .ok (.getfield 55, 3) := by decide +kernel
theorem dX3_slopeOverProduct_36 : decode cX3_slopeOverProduct 36 = .ok (.iload_n 3, 1) := by decide +kernel
theorem dX3_slopeOverProduct_37 : decode cX3_slopeOverProduct 37 = .ok (.invokevirtual 68, 3) := by decide +kernel
theorem dX3_slopeOverProduct_40 : decode cX3_slopeOverProduct 40 = .ok (.aload_n 0, 1) := by decide +kernel
theorem dX3_slopeOverProduct_41 : decode cX3_slopeOverProduct 41 = .ok (.getfield 46, 3) := by decide +kernel
theorem dX3_slopeOverProduct_44 : decode cX3_slopeOverProduct 44 = .ok (.iload_n 3, 1) := by decide +kernel
theorem dX3_slopeOverProduct_45 : decode cX3_slopeOverProduct 45 = .ok (.invokevirtual 68, 3) := by decide +kernel
theorem dX3_slopeOverProduct_48 : decode cX3_slopeOverProduct 48 = .ok (.aload_n 0, 1) := by decide +kernel
theorem dX3_slopeOverProduct_49 : decode cX3_slopeOverProduct 49 = .ok (.getfield 27, 3) := by decide +kernel
theorem dX3_slopeOverProduct_52 : decode cX3_slopeOverProduct 52 = .ok (.iconst 1, 1) := by decide +kernel
theorem dX3_slopeOverProduct_53 : decode cX3_slopeOverProduct 53 = .ok (.invokevirtual 230, 3) := by decide +kernel
theorem dX3_slopeOverProduct_56 : decode cX3_slopeOverProduct 56 = .ok (.iinc 3 1, 3) := by decide +kernel
theorem dX3_slopeOverProduct_59 : decode cX3_slopeOverProduct 59 = .ok (.goto (-33), 3) := by decide +kernel
theorem dX3_slopeOverProduct_62 : decode cX3_slopeOverProduct 62 = .ok (.return_, 1) := by decide +kernel
theorem dX3_setSlope_0 : decode cX3_setSlope 0 = .ok (.aload_n 0, 1) := by decide +kernel
theorem dX3_setSlope_1 : decode cX3_setSlope 1 = .ok (.getfield 55, 3) := by decide +kernel
theorem dX3_setSlope_4 : decode cX3_setSlope 4 = .ok (.invokevirtual 130, 3) := by decide +kernel
theorem dX3_setSlope_7 : decode cX3_setSlope 7 = .ok (.aload_n 0, 1) := by decide +kernel
theorem dX3_setSlope_8 : decode cX3_setSlope 8 = .ok (.getfield 55, 3) := by decide +kernel
theorem dX3_setSlope_11 : decode cX3_setSlope 11 = .ok (.iload_n 1, 1) := by decide +kernel
theorem dX3_setSlope_12 : decode cX3_setSlope 12 = .ok (.iconst 1, 1) := by decide +kernel
theorem dX3_setSlope_13 : decode cX3_setSlope 13 = .ok (.if_icmp .ne 10, 3) := by decide +kernel
theorem dX3_setSlope_16 : decode cX3_setSlope 16 = .ok (.aload_n 0, 1) := by decide +kernel
theorem dX3_setSlope_17 : decode cX3_setSlope 17 = .ok (.getfield 33, 3) := by decide +kernel
theorem dX3_setSlope_20 : decode cX3_setSlope 20 = .ok (.goto 7, 3) := by decide +kernel
theorem dX3_setSlope_23 : decode cX3_setSlope 23 = .ok (.aload_n 0, 1) := by decide +kernel
theorem dX3_setSlope_24 : decode cX3_setSlope 24 = .ok (.getfield 37, 3) := by decide +kernel
theorem dX3_setSlope_27 : decode cX3_setSlope 27 = .ok (.aload_n 0, 1) := by decide +kernel
theorem dX3_setSlope_28 : decode cX3_setSlope 28 = .ok (.getfield 37, 3) := by decide +kernel
theorem dX3_setSlope_31 : decode cX3_setSlope 31 = .ok (.iconst 1, 1) := by decide +kernel
theorem dX3_setSlope_32 : decode cX3_setSlope 32 = .ok (.invokevirtual 133, 3) := by decide +kernel
theorem dX3_setSlope_35 : decode cX3_setSlope 35 = .ok (.aload_n 0, 1) := by decide +kernel
theorem dX3_setSlope_36 : decode cX3_setSlope 36 = .ok (.getfield 64, 3) := by decide +kernel
theorem dX3_setSlope_39 : decode cX3_setSlope 39 = .ok (.aload_n 0, 1) := by decide +kernel
theorem dX3_setSlope_40 : decode cX3_setSlope 40 = .ok (.getfield 52, 3) := by decide +kernel
theorem dX3_setSlope_43 : decode cX3_setSlope 43 = .ok (.aload_n 0, 1) := by decide +kernel
theorem dX3_setSlope_44 : decode cX3_setSlope 44 = .ok (.getfield 55, 3) := by decide +kernel
theorem dX3_setSlope_47 : decode cX3_setSlope 47 = .ok (.invokevirtual 166, 3) := by decide +kernel
theorem dX3_setSlope_50 : decode cX3_setSlope 50 = .ok (.aload_n 0, 1) := by decide +kernel
theorem dX3_setSlope_51 : decode cX3_setSlope 51 = .ok (.getfield 23, 3) := by decide +kernel
theorem dX3_setSlope_54 : decode cX3_setSlope 54 = .ok (.aload_n 0, 1) := by decide +kernel
theorem dX3_setSlope_55 : decode cX3_setSlope 55 = .ok (.getfield 64, 3) := by decide +kernel
theorem dX3_setSlope_58 : decode cX3_setSlope 58 = .ok (.getfield 193, 3) := by decide +kernel
theorem dX3_setSlope_61 : decode cX3_setSlope 61 = .ok (.iconst 0, 1) := by decide +kernel
theorem dX3_setSlope_62 : decode cX3_setSlope 62 = .ok (.invokevirtual 68, 3) := by decide +kernel
theorem dX3_setSlope_65 : decode cX3_setSlope 65 = .ok (.invokevirtual 233, 3) := by decide +kernel
theorem dX3_setSlope_68 : decode cX3_setSlope 68 = .ok (.aload_n 0, 1) := by decide +kernel
theorem dX3_setSlope_69 : decode cX3_setSlope 69 = .ok (.getfield 27, 3) := by decide +kernel
theorem dX3_setSlope_72 : decode cX3_setSlope 72 = .ok (.aload_n 0, 1) := by decide +kernel
theorem dX3_setSlope_73 : decode cX3_setSlope 73 = .ok (.getfield 64, 3) := by decide +kernel
theorem dX3_setSlope_76 : decode cX3_setSlope 76 = .ok (.getfield 196, 3) := by decide +kernel
theorem dX3_setSlope_79 : decode cX3_setSlope 79 = .ok (.iconst 0, 1) := by decide +kernel
theorem dX3_setSlope_80 : decode cX3_setSlope 80 = .ok (.invokevirtual 68, 3) := by decide +kernel
theorem dX3_setSlope_83 : decode cX3_setSlope 83 = .ok (.invokevirtual 233, 3) := by decide +kernel
theorem dX3_setSlope_86 : decode cX3_setSlope 86 = .ok (.return_, 1) := by decide +kernel
theorem dX3_makeSquareFree_0 : decode cX3_makeSquareFree 0 = .ok (.aload_n 0, 1) := by decide +kernel
theorem dX3_makeSquareFree_1 : decode cX3_makeSquareFree 1 = .ok (.getfield 46, 3) := by decide +kernel
theorem dX3_makeSquareFree_4 : decode cX3_makeSquareFree 4 = .ok (.invokevirtual 130, 3) := by decide +kernel
theorem dX3_makeSquareFree_7 : decode cX3_makeSquareFree 7 = .ok (.iconst 1, 1) := by decide +kernel
theorem dX3_makeSquareFree_8 : decode cX3_makeSquareFree 8 = .ok (.istore_n 2, 1) := by decide +kernel
theorem dX3_makeSquareFree_9 : decode cX3_makeSquareFree 9 = .ok (.iload_n 2, 1) := by decide +kernel
theorem dX3_makeSquareFree_10 : decode cX3_makeSquareFree 10 = .ok (.bipush 7, 2) := by decide +kernel
theorem dX3_makeSquareFree_12 : decode cX3_makeSquareFree 12 = .ok (.if_icmp .ge 29, 3) := by decide +kernel
theorem dX3_makeSquareFree_15 : decode cX3_makeSquareFree 15 = .ok (.aload_n 0, 1) := by decide +kernel
theorem dX3_makeSquareFree_16 : decode cX3_makeSquareFree 16 = .ok (.getfield 46, 3) := by decide +kernel
theorem dX3_makeSquareFree_19 : decode cX3_makeSquareFree 19 = .ok (.iload_n 2, 1) := by decide +kernel
theorem dX3_makeSquareFree_20 : decode cX3_makeSquareFree 20 = .ok (.iconst 1, 1) := by decide +kernel
theorem dX3_makeSquareFree_21 : decode cX3_makeSquareFree 21 = .ok (.isub, 1) := by decide +kernel
theorem dX3_makeSquareFree_22 : decode cX3_makeSquareFree 22 = .ok (.invokevirtual 68, 3) := by decide +kernel
theorem dX3_makeSquareFree_25 : decode cX3_makeSquareFree 25 = .ok (.aload_n 1, 1) := by decide +kernel
theorem dX3_makeSquareFree_26 : decode cX3_makeSquareFree 26 = .ok (.iload_n 2, 1) := by decide +kernel
theorem dX3_makeSquareFree_27 : decode cX3_makeSquareFree 27 = .ok (.invokevirtual 68, 3) := by decide +kernel
theorem dX3_makeSquareFree_30 : decode cX3_makeSquareFree 30 = .ok (.iload_n 2, 1) := by decide +kernel
theorem dX3_makeSquareFree_31 : decode cX3_makeSquareFree 31 = .ok (.iconst 0, 1) := by decide +kernel
theorem dX3_makeSquareFree_32 : decode cX3_makeSquareFree 32 = .ok (.invokevirtual 237, 3) := by decide +kernel
theorem dX3_makeSquareFree_35 : decode cX3_makeSquareFree 35 = .ok (.iinc 2 1, 3) := by decide +kernel
theorem dX3_makeSquareFree_38 : decode cX3_makeSquareFree 38 = .ok (.goto (-29), 3) := by decide +kernel
theorem dX3_makeSquareFree_41 : decode cX3_makeSquareFree 41 = .ok (.aload_n 0, 1) := by decide +kernel
theorem dX3_makeSquareFree_42 : decode cX3_makeSquareFree 42 = .ok (.getfield 64, 3) := by decide +kernel
theorem dX3_makeSquareFree_45 : decode cX3_makeSquareFree 45 = .ok (.aload_n 1, 1) := by decide +kernel
theorem dX3_makeSquareFree_46 : decode cX3_makeSquareFree 46 = .ok (.aload_n 0, 1) := by decide +kernel
theorem dX3_makeSquareFree_47 : decode cX3_makeSquareFree 47 = .ok (.getfield 46, 3) := by decide +kernel
theorem dX3_makeSquareFree_50 : decode cX3_makeSquareFree 50 = .ok (.invokevirtual 166, 3) := by decide +kernel
theorem dX3_makeSquareFree_53 : decode cX3_makeSquareFree 53 = .ok (.aload_n 1, 1) := by decide +kernel
theorem dX3_makeSquareFree_54 : decode cX3_makeSquareFree 54 = .ok (.aload_n 0, 1) := by decide +kernel
theorem dX3_makeSquareFree_55 : decode cX3_makeSquareFree 55 = .ok (.getfield 64, 3) := by decide +kernel
theorem dX3_makeSquareFree_58 : decode cX3_makeSquareFree 58 = .ok (.getfield 193, 3) := by decide +kernel
theorem dX3_makeSquareFree_61 : decode cX3_makeSquareFree 61 = .ok (.invokevirtual 241, 3) := by decide +kernel
theorem dX3_makeSquareFree_64 : decode cX3_makeSquareFree 64 = .ok (.return_, 1) := by decide +kernel
theorem dX3_splitSquareFree_0 : decode cX3_splitSquareFree 0 = .ok (.aload_n 0, 1) := by decide +kernel
theorem dX3_splitSquareFree_1 : decode cX3_splitSquareFree 1 = .ok (.aload_n 1, 1) := by decide +kernel
theorem dX3_splitSquareFree_2 : decode cX3_splitSquareFree 2 = .ok (.aload_n 0, 1) := by decide +kernel
theorem dX3_splitSquareFree_3 : decode cX3_splitSquareFree 3 = .ok (.getfield 46, 3) := by decide +kernel
theorem dX3_splitSquareFree_6 : decode cX3_splitSquareFree 6 = .ok (.invokevirtual 223, 3) := by decide +kernel
theorem dX3_splitSquareFree_9 : decode cX3_splitSquareFree 9 = .ok (.aload_n 0, 1) := by decide +kernel
theorem dX3_splitSquareFree_10 : decode cX3_splitSquareFree 10 = .ok (.getfield 64, 3) := by decide +kernel
theorem dX3_splitSquareFree_13 : decode cX3_splitSquareFree 13 = .ok (.aload_n 1, 1) := by decide +kernel
theorem dX3_splitSquareFree_14 : decode cX3_splitSquareFree 14 = .ok (.aload_n 0, 1) := by decide +kernel
theorem dX3_splitSquareFree_15 : decode cX3_splitSquareFree 15 = .ok (.getfield 46, 3) := by decide +kernel
theorem dX3_splitSquareFree_18 : decode cX3_splitSquareFree 18 = .ok (.invokevirtual 166, 3) := by decide +kernel
theorem dX3_splitSquareFree_21 : decode cX3_splitSquareFree 21 = .ok (.aload_n 1, 1) := by decide +kernel
theorem dX3_splitSquareFree_22 : decode cX3_splitSquareFree 22 = .ok (.iload_n 2, 1) := by decide +kernel
theorem dX3_splitSquareFree_23 : decode cX3_splitSquareFree 23 = .ok (.iconst 4, 1) := by decide +kernel
theorem dX3_splitSquareFree_24 : decode cX3_splitSquareFree 24 = .ok (.if_icmp .ne 13, 3) := by decide +kernel
theorem dX3_splitSquareFree_27 : decode cX3_splitSquareFree 27 = .ok (.aload_n 0, 1) := by decide +kernel
theorem dX3_splitSquareFree_28 : decode cX3_splitSquareFree 28 = .ok (.getfield 64, 3) := by decide +kernel
theorem dX3_splitSquareFree_31 : decode cX3_splitSquareFree 31 = .ok (.getfield 169, 3) := by decide +kernel
theorem dX3_splitSquareFree_34 : decode cX3_splitSquareFree 34 = .ok (.goto 10, 3) := by decide +kernel
theorem dX3_splitSquareFree_37 : decode cX3_splitSquareFree 37 = .ok (.aload_n 0, 1) := by decide +kernel
theorem dX3_splitSquareFree_38 : decode cX3_splitSquareFree 38 = .ok (.getfield 64, 3) := by decide +kernel
theorem dX3_splitSquareFree_41 : decode cX3_splitSquareFree 41 = .ok (.getfield 193, 3) := by decide +kernel
theorem dX3_splitSquareFree_44 : decode cX3_splitSquareFree 44 = .ok (.invokevirtual 241, 3) := by decide +kernel
theorem dX3_splitSquareFree_47 : decode cX3_splitSquareFree 47 = .ok (.return_, 1) := by decide +kernel
theorem dX3_residue_0 : decode cX3_residue 0 = .ok (.lload_n 0, 1) := by decide +kernel
theorem dX3_residue_1 : decode cX3_residue 1 = .ok (.ldc2_w 243, 3) := by decide +kernel
theorem dX3_residue_4 : decode cX3_residue 4 = .ok (.lrem, 1) := by decide +kernel
theorem dX3_residue_5 : decode cX3_residue 5 = .ok (.lstore_n 2, 1) := by decide +kernel
theorem dX3_residue_6 : decode cX3_residue 6 = .ok (.lload_n 2, 1) := by decide +kernel
theorem dX3_residue_7 : decode cX3_residue 7 = .ok (.lconst 0, 1) := by decide +kernel
theorem dX3_residue_8 : decode cX3_residue 8 = .ok (.lcmp, 1) := by decide +kernel
theorem dX3_residue_9 : decode cX3_residue 9 = .ok (.ifCond .ge 11, 3) := by decide +kernel
theorem dX3_residue_12 : decode cX3_residue 12 = .ok (.lload_n 2, 1) := by decide +kernel
theorem dX3_residue_13 : decode cX3_residue 13 = .ok (.ldc2_w 243, 3) := by decide +kernel
theorem dX3_residue_16 : decode cX3_residue 16 = .ok (.ladd, 1) := by decide +kernel
theorem dX3_residue_17 : decode cX3_residue 17 = .ok (.goto 4, 3) := by decide +kernel
theorem dX3_residue_20 : decode cX3_residue 20 = .ok (.lload_n 2, 1) := by decide +kernel
theorem dX3_residue_21 : decode cX3_residue 21 = .ok (.l2i, 1) := by decide +kernel
theorem dX3_residue_22 : decode cX3_residue 22 = .ok (.ireturn, 1) := by decide +kernel
theorem dX3_inverse_0 : decode cX3_inverse 0 = .ok (.iload_n 0, 1) := by decide +kernel
theorem dX3_inverse_1 : decode cX3_inverse 1 = .ok (.istore_n 1, 1) := by decide +kernel
theorem dX3_inverse_2 : decode cX3_inverse 2 = .ok (.iconst 1, 1) := by decide +kernel
theorem dX3_inverse_3 : decode cX3_inverse 3 = .ok (.istore_n 2, 1) := by decide +kernel
theorem dX3_inverse_4 : decode cX3_inverse 4 = .ok (.sipush 32001, 3) := by decide +kernel
theorem dX3_inverse_7 : decode cX3_inverse 7 = .ok (.istore_n 3, 1) := by decide +kernel
theorem dX3_inverse_8 : decode cX3_inverse 8 = .ok (.iload_n 3, 1) := by decide +kernel
theorem dX3_inverse_9 : decode cX3_inverse 9 = .ok (.ifCond .le 33, 3) := by decide +kernel
theorem dX3_inverse_12 : decode cX3_inverse 12 = .ok (.iload_n 3, 1) := by decide +kernel
theorem dX3_inverse_13 : decode cX3_inverse 13 = .ok (.iconst 1, 1) := by decide +kernel
theorem dX3_inverse_14 : decode cX3_inverse 14 = .ok (.iand, 1) := by decide +kernel
theorem dX3_inverse_15 : decode cX3_inverse 15 = .ok (.iconst 1, 1) := by decide +kernel
theorem dX3_inverse_16 : decode cX3_inverse 16 = .ok (.if_icmp .ne 11, 3) := by decide +kernel
theorem dX3_inverse_19 : decode cX3_inverse 19 = .ok (.iload_n 2, 1) := by decide +kernel
theorem dX3_inverse_20 : decode cX3_inverse 20 = .ok (.iload_n 1, 1) := by decide +kernel
theorem dX3_inverse_21 : decode cX3_inverse 21 = .ok (.imul, 1) := by decide +kernel
theorem dX3_inverse_22 : decode cX3_inverse 22 = .ok (.sipush 32003, 3) := by decide +kernel
theorem dX3_inverse_25 : decode cX3_inverse 25 = .ok (.irem, 1) := by decide +kernel
theorem dX3_inverse_26 : decode cX3_inverse 26 = .ok (.istore_n 2, 1) := by decide +kernel
theorem dX3_inverse_27 : decode cX3_inverse 27 = .ok (.iload_n 1, 1) := by decide +kernel
theorem dX3_inverse_28 : decode cX3_inverse 28 = .ok (.iload_n 1, 1) := by decide +kernel
theorem dX3_inverse_29 : decode cX3_inverse 29 = .ok (.imul, 1) := by decide +kernel
theorem dX3_inverse_30 : decode cX3_inverse 30 = .ok (.sipush 32003, 3) := by decide +kernel
theorem dX3_inverse_33 : decode cX3_inverse 33 = .ok (.irem, 1) := by decide +kernel
theorem dX3_inverse_34 : decode cX3_inverse 34 = .ok (.istore_n 1, 1) := by decide +kernel
theorem dX3_inverse_35 : decode cX3_inverse 35 = .ok (.iload_n 3, 1) := by decide +kernel
theorem dX3_inverse_36 : decode cX3_inverse 36 = .ok (.iconst 1, 1) := by decide +kernel
theorem dX3_inverse_37 : decode cX3_inverse 37 = .ok (.ishr, 1) := by decide +kernel
theorem dX3_inverse_38 : decode cX3_inverse 38 = .ok (.istore_n 3, 1) := by decide +kernel
theorem dX3_inverse_39 : decode cX3_inverse 39 = .ok (.goto (-31), 3) := by decide +kernel
theorem dX3_inverse_42 : decode cX3_inverse 42 = .ok (.iload_n 2, 1) := by decide +kernel
theorem dX3_inverse_43 : decode cX3_inverse 43 = .ok (.ireturn, 1) := by decide +kernel
