theorem dX4_init_0 : decode cX4_init 0 = .ok (.aload_n 0, 1) := by decide +kernel
theorem dX4_init_1 : decode cX4_init 1 = .ok (.invokespecial 1, 3) := by decide +kernel
theorem dX4_init_4 : decode cX4_init 4 = .ok (.aload_n 0, 1) := by decide +kernel
theorem dX4_init_5 : decode cX4_init 5 = .ok (.sipush 5880, 3) := by decide +kernel
theorem dX4_init_8 : decode cX4_init 8 = .ok (.newarray .int, 2) := by decide +kernel
theorem dX4_init_10 : decode cX4_init 10 = .ok (.putfield 7, 3) := by decide +kernel
theorem dX4_init_13 : decode cX4_init 13 = .ok (.aload_n 0, 1) := by decide +kernel
theorem dX4_init_14 : decode cX4_init 14 = .ok (.sipush 5880, 3) := by decide +kernel
theorem dX4_init_17 : decode cX4_init 17 = .ok (.newarray .int, 2) := by decide +kernel
theorem dX4_init_19 : decode cX4_init 19 = .ok (.putfield 13, 3) := by decide +kernel
theorem dX4_init_22 : decode cX4_init 22 = .ok (.aload_n 0, 1) := by decide +kernel
theorem dX4_init_23 : decode cX4_init 23 = .ok (.sipush 880, 3) := by decide +kernel
theorem dX4_init_26 : decode cX4_init 26 = .ok (.newarray .int, 2) := by decide +kernel
theorem dX4_init_28 : decode cX4_init 28 = .ok (.putfield 16, 3) := by decide +kernel
theorem dX4_init_31 : decode cX4_init 31 = .ok (.aload_n 0, 1) := by decide +kernel
theorem dX4_init_32 : decode cX4_init 32 = .ok (.sipush 880, 3) := by decide +kernel
theorem dX4_init_35 : decode cX4_init 35 = .ok (.newarray .int, 2) := by decide +kernel
theorem dX4_init_37 : decode cX4_init 37 = .ok (.putfield 19, 3) := by decide +kernel
theorem dX4_init_40 : decode cX4_init 40 = .ok (.aload_n 0, 1) := by decide +kernel
theorem dX4_init_41 : decode cX4_init 41 = .ok (.sipush 880, 3) := by decide +kernel
theorem dX4_init_44 : decode cX4_init 44 = .ok (.newarray .int, 2) := by decide +kernel
theorem dX4_init_46 : decode cX4_init 46 = .ok (.putfield 22, 3) := by decide +kernel
theorem dX4_init_49 : decode cX4_init 49 = .ok (.aload_n 0, 1) := by decide +kernel
theorem dX4_init_50 : decode cX4_init 50 = .ok (.sipush 880, 3) := by decide +kernel
theorem dX4_init_53 : decode cX4_init 53 = .ok (.newarray .int, 2) := by decide +kernel
theorem dX4_init_55 : decode cX4_init 55 = .ok (.putfield 25, 3) := by decide +kernel
theorem dX4_init_58 : decode cX4_init 58 = .ok (.aload_n 0, 1) := by decide +kernel
theorem dX4_init_59 : decode cX4_init 59 = .ok (.sipush 880, 3) := by decide +kernel
theorem dX4_init_62 : decode cX4_init 62 = .ok (.newarray .int, 2) := by decide +kernel
theorem dX4_init_64 : decode cX4_init 64 = .ok (.putfield 28, 3) := by decide +kernel
theorem dX4_init_67 : decode cX4_init 67 = .ok (.aload_n 0, 1) := by decide +kernel
theorem dX4_init_68 : decode cX4_init 68 = .ok (.sipush 880, 3) := by decide +kernel
theorem dX4_init_71 : decode cX4_init 71 = .ok (.newarray .int, 2) := by decide +kernel
theorem dX4_init_73 : decode cX4_init 73 = .ok (.putfield 31, 3) := by decide +kernel
theorem dX4_init_76 : decode cX4_init 76 = .ok (.aload_n 0, 1) := by decide +kernel
theorem dX4_init_77 : decode cX4_init 77 = .ok (.sipush 880, 3) := by decide +kernel
theorem dX4_init_80 : decode cX4_init 80 = .ok (.newarray .int, 2) := by decide +kernel
theorem dX4_init_82 : decode cX4_init 82 = .ok (.putfield 34, 3) := by decide +kernel
theorem dX4_init_85 : decode cX4_init 85 = .ok (.aload_n 0, 1) := by decide +kernel
theorem dX4_init_86 : decode cX4_init 86 = .ok (.sipush 880, 3) := by decide +kernel
theorem dX4_init_89 : decode cX4_init 89 = .ok (.newarray .int, 2) := by decide +kernel
theorem dX4_init_91 : decode cX4_init 91 = .ok (.putfield 37, 3) := by decide +kernel
theorem dX4_init_94 : decode cX4_init 94 = .ok (.aload_n 0, 1) := by decide +kernel
theorem dX4_init_95 : decode cX4_init 95 = .ok (.sipush 880, 3) := by decide +kernel
theorem dX4_init_98 : decode cX4_init 98 = .ok (.newarray .int, 2) := by decide +kernel
theorem dX4_init_100 : decode cX4_init 100 = .ok (.putfield 40, 3) := by decide +kernel
theorem dX4_init_103 : decode cX4_init 103 = .ok (.aload_n 0, 1) := by decide +kernel
theorem dX4_init_104 : decode cX4_init 104 = .ok (.bipush 98, 2) := by decide +kernel
theorem dX4_init_106 : decode cX4_init 106 = .ok (.newarray .int, 2) := by decide +kernel
theorem dX4_init_108 : decode cX4_init 108 = .ok (.putfield 43, 3) := by decide +kernel
theorem dX4_init_111 : decode cX4_init 111 = .ok (.aload_n 0, 1) := by decide +kernel
theorem dX4_init_112 : decode cX4_init 112 = .ok (.ldc 46, 2) := by decide +kernel
theorem dX4_init_114 : decode cX4_init 114 = .ok (.newarray .int, 2) := by decide +kernel
theorem dX4_init_116 : decode cX4_init 116 = .ok (.putfield 47, 3) := by decide +kernel
theorem dX4_init_119 : decode cX4_init 119 = .ok (.aload_n 0, 1) := by decide +kernel
theorem dX4_init_120 : decode cX4_init 120 = .ok (.sipush 9604, 3) := by decide +kernel
theorem dX4_init_123 : decode cX4_init 123 = .ok (.newarray .int, 2) := by decide +kernel
theorem dX4_init_125 : decode cX4_init 125 = .ok (.putfield 50, 3) := by decide +kernel
theorem dX4_init_128 : decode cX4_init 128 = .ok (.aload_n 0, 1) := by decide +kernel
theorem dX4_init_129 : decode cX4_init 129 = .ok (.sipush 880, 3) := by decide +kernel
theorem dX4_init_132 : decode cX4_init 132 = .ok (.newarray .int, 2) := by decide +kernel
theorem dX4_init_134 : decode cX4_init 134 = .ok (.putfield 53, 3) := by decide +kernel
theorem dX4_init_137 : decode cX4_init 137 = .ok (.aload_n 0, 1) := by decide +kernel
theorem dX4_init_138 : decode cX4_init 138 = .ok (.bipush 98, 2) := by decide +kernel
theorem dX4_init_140 : decode cX4_init 140 = .ok (.newarray .int, 2) := by decide +kernel
theorem dX4_init_142 : decode cX4_init 142 = .ok (.putfield 56, 3) := by decide +kernel
theorem dX4_init_145 : decode cX4_init 145 = .ok (.aload_n 0, 1) := by decide +kernel
theorem dX4_init_146 : decode cX4_init 146 = .ok (.sipush 880, 3) := by decide +kernel
theorem dX4_init_149 : decode cX4_init 149 = .ok (.newarray .int, 2) := by decide +kernel
theorem dX4_init_151 : decode cX4_init 151 = .ok (.putfield 59, 3) := by decide +kernel
theorem dX4_init_154 : decode cX4_init 154 = .ok (.return_, 1) := by decide +kernel
theorem dX4_thrown_0 : decode cX4_thrown 0 = .ok (.aload_n 0, 1) := by decide +kernel
theorem dX4_thrown_1 : decode cX4_thrown 1 = .ok (.getfield 62, 3) := by decide +kernel
theorem dX4_thrown_4 : decode cX4_thrown 4 = .ok (.ireturn, 1) := by decide +kernel
theorem dX4_raise_0 : decode cX4_raise 0 = .ok (.aload_n 0, 1) := by decide +kernel
theorem dX4_raise_1 : decode cX4_raise 1 = .ok (.iload_n 1, 1) := by decide +kernel
theorem dX4_raise_2 : decode cX4_raise 2 = .ok (.putfield 62, 3) := by decide +kernel
theorem dX4_raise_5 : decode cX4_raise 5 = .ok (.iconst 0, 1) := by decide +kernel
theorem dX4_raise_6 : decode cX4_raise 6 = .ok (.ireturn, 1) := by decide +kernel
theorem dX4_modulo_0 : decode cX4_modulo 0 = .ok (.lload_n 0, 1) := by decide +kernel
theorem dX4_modulo_1 : decode cX4_modulo 1 = .ok (.ldc2_w 66, 3) := by decide +kernel
theorem dX4_modulo_4 : decode cX4_modulo 4 = .ok (.lrem, 1) := by decide +kernel
theorem dX4_modulo_5 : decode cX4_modulo 5 = .ok (.lstore_n 2, 1) := by decide +kernel
theorem dX4_modulo_6 : decode cX4_modulo 6 = .ok (.lload_n 2, 1) := by decide +kernel
theorem dX4_modulo_7 : decode cX4_modulo 7 = .ok (.lconst 0, 1) := by decide +kernel
theorem dX4_modulo_8 : decode cX4_modulo 8 = .ok (.lcmp, 1) := by decide +kernel
theorem dX4_modulo_9 : decode cX4_modulo 9 = .ok (.ifCond .ge 11, 3) := by decide +kernel
theorem dX4_modulo_12 : decode cX4_modulo 12 = .ok (.lload_n 2, 1) := by decide +kernel
theorem dX4_modulo_13 : decode cX4_modulo 13 = .ok (.ldc2_w 66, 3) := by decide +kernel
theorem dX4_modulo_16 : decode cX4_modulo 16 = .ok (.ladd, 1) := by decide +kernel
theorem dX4_modulo_17 : decode cX4_modulo 17 = .ok (.goto 4, 3) := by decide +kernel
theorem dX4_modulo_20 : decode cX4_modulo 20 = .ok (.lload_n 2, 1) := by decide +kernel
theorem dX4_modulo_21 : decode cX4_modulo 21 = .ok (.l2i, 1) := by decide +kernel
theorem dX4_modulo_22 : decode cX4_modulo 22 = .ok (.ireturn, 1) := by decide +kernel
theorem dX4_inverse_0 : decode cX4_inverse 0 = .ok (.lconst 1, 1) := by decide +kernel
theorem dX4_inverse_1 : decode cX4_inverse 1 = .ok (.lstore_n 1, 1) := by decide +kernel
theorem dX4_inverse_2 : decode cX4_inverse 2 = .ok (.iload_n 0, 1) := by decide +kernel
theorem dX4_inverse_3 : decode cX4_inverse 3 = .ok (.i2l, 1) := by decide +kernel
theorem dX4_inverse_4 : decode cX4_inverse 4 = .ok (.lstore_n 3, 1) := by decide +kernel
theorem dX4_inverse_5 : decode cX4_inverse 5 = .ok (.sipush 32001, 3) := by decide +kernel
theorem dX4_inverse_8 : decode cX4_inverse 8 = .ok (.istore 5, 2) := by decide +kernel
theorem dX4_inverse_10 : decode cX4_inverse 10 = .ok (.iload 5, 2) := by decide +kernel
theorem dX4_inverse_12 : decode cX4_inverse 12 = .ok (.ifCond .le 40, 3) := by decide +kernel
theorem dX4_inverse_15 : decode cX4_inverse 15 = .ok (.iload 5, 2) := by decide +kernel
theorem dX4_inverse_17 : decode cX4_inverse 17 = .ok (.iconst 2, 1) := by decide +kernel
theorem dX4_inverse_18 : decode cX4_inverse 18 = .ok (.irem, 1) := by decide +kernel
theorem dX4_inverse_19 : decode cX4_inverse 19 = .ok (.iconst 1, 1) := by decide +kernel
theorem dX4_inverse_20 : decode cX4_inverse 20 = .ok (.if_icmp .ne 13, 3) := by decide +kernel
theorem dX4_inverse_23 : decode cX4_inverse 23 = .ok (.lload_n 1, 1) := by decide +kernel
theorem dX4_inverse_24 : decode cX4_inverse 24 = .ok (.lload_n 3, 1) := by decide +kernel
theorem dX4_inverse_25 : decode cX4_inverse 25 = .ok (.lmul, 1) := by decide +kernel
theorem dX4_inverse_26 : decode cX4_inverse 26 = .ok (.ldc2_w 66, 3) := by decide +kernel
theorem dX4_inverse_29 : decode cX4_inverse 29 = .ok (.lrem, 1) := by decide +kernel
theorem dX4_inverse_30 : decode cX4_inverse 30 = .ok (.goto 4, 3) := by decide +kernel
theorem dX4_inverse_33 : decode cX4_inverse 33 = .ok (.lload_n 1, 1) := by decide +kernel
theorem dX4_inverse_34 : decode cX4_inverse 34 = .ok (.lstore_n 1, 1) := by decide +kernel
theorem dX4_inverse_35 : decode cX4_inverse 35 = .ok (.lload_n 3, 1) := by decide +kernel
theorem dX4_inverse_36 : decode cX4_inverse 36 = .ok (.lload_n 3, 1) := by decide +kernel
theorem dX4_inverse_37 : decode cX4_inverse 37 = .ok (.lmul, 1) := by decide +kernel
theorem dX4_inverse_38 : decode cX4_inverse 38 = .ok (.ldc2_w 66, 3) := by decide +kernel
theorem dX4_inverse_41 : decode cX4_inverse 41 = .ok (.lrem, 1) := by decide +kernel
theorem dX4_inverse_42 : decode cX4_inverse 42 = .ok (.lstore_n 3, 1) := by decide +kernel
theorem dX4_inverse_43 : decode cX4_inverse 43 = .ok (.iload 5, 2) := by decide +kernel
theorem dX4_inverse_45 : decode cX4_inverse 45 = .ok (.iconst 2, 1) := by decide +kernel
theorem dX4_inverse_46 : decode cX4_inverse 46 = .ok (.idiv, 1) := by decide +kernel
theorem dX4_inverse_47 : decode cX4_inverse 47 = .ok (.istore 5, 2) := by decide +kernel
theorem dX4_inverse_49 : decode cX4_inverse 49 = .ok (.goto (-39), 3) := by decide +kernel
theorem dX4_inverse_52 : decode cX4_inverse 52 = .ok (.lload_n 1, 1) := by decide +kernel
theorem dX4_inverse_53 : decode cX4_inverse 53 = .ok (.l2i, 1) := by decide +kernel
theorem dX4_inverse_54 : decode cX4_inverse 54 = .ok (.ireturn, 1) := by decide +kernel
theorem dX4_clear_0 : decode cX4_clear 0 = .ok (.iconst 0, 1) := by decide +kernel
theorem dX4_clear_1 : decode cX4_clear 1 = .ok (.istore_n 1, 1) := by decide +kernel
theorem dX4_clear_2 : decode cX4_clear 2 = .ok (.iload_n 1, 1) := by decide +kernel
theorem dX4_clear_3 : decode cX4_clear 3 = .ok (.sipush 880, 3) := by decide +kernel
theorem dX4_clear_6 : decode cX4_clear 6 = .ok (.if_icmp .ge 13, 3) := by decide +kernel
theorem dX4_clear_9 : decode cX4_clear 9 = .ok (.aload_n 0, 1) := by decide +kernel
theorem dX4_clear_10 : decode cX4_clear 10 = .ok (.iload_n 1, 1) := by decide +kernel
theorem dX4_clear_11 : decode cX4_clear 11 = .ok (.iconst 0, 1) := by decide +kernel
theorem dX4_clear_12 : decode cX4_clear 12 = .ok (.iastore, 1) := by decide +kernel
theorem dX4_clear_13 : decode cX4_clear 13 = .ok (.iinc 1 1, 3) := by decide +kernel
theorem dX4_clear_16 : decode cX4_clear 16 = .ok (.goto (-14), 3) := by decide +kernel
theorem dX4_clear_19 : decode cX4_clear 19 = .ok (.return_, 1) := by decide +kernel
theorem dX4_copy_0 : decode cX4_copy 0 = .ok (.iconst 0, 1) := by decide +kernel
theorem dX4_copy_1 : decode cX4_copy 1 = .ok (.istore_n 2, 1) := by decide +kernel
theorem dX4_copy_2 : decode cX4_copy 2 = .ok (.iload_n 2, 1) := by decide +kernel
theorem dX4_copy_3 : decode cX4_copy 3 = .ok (.sipush 880, 3) := by decide +kernel
theorem dX4_copy_6 : decode cX4_copy 6 = .ok (.if_icmp .ge 15, 3) := by decide +kernel
theorem dX4_copy_9 : decode cX4_copy 9 = .ok (.aload_n 0, 1) := by decide +kernel
theorem dX4_copy_10 : decode cX4_copy 10 = .ok (.iload_n 2, 1) := by decide +kernel
theorem dX4_copy_11 : decode cX4_copy 11 = .ok (.aload_n 1, 1) := by decide +kernel
theorem dX4_copy_12 : decode cX4_copy 12 = .ok (.iload_n 2, 1) := by decide +kernel
theorem dX4_copy_13 : decode cX4_copy 13 = .ok (.iaload, 1) := by decide +kernel
theorem dX4_copy_14 : decode cX4_copy 14 = .ok (.iastore, 1) := by decide +kernel
theorem dX4_copy_15 : decode cX4_copy 15 = .ok (.iinc 2 1, 3) := by decide +kernel
theorem dX4_copy_18 : decode cX4_copy 18 = .ok (.goto (-16), 3) := by decide +kernel
theorem dX4_copy_21 : decode cX4_copy 21 = .ok (.return_, 1) := by decide +kernel
theorem dX4_isNone_0 : decode cX4_isNone 0 = .ok (.iconst 1, 1) := by decide +kernel
theorem dX4_isNone_1 : decode cX4_isNone 1 = .ok (.istore_n 1, 1) := by decide +kernel
theorem dX4_isNone_2 : decode cX4_isNone 2 = .ok (.iconst 0, 1) := by decide +kernel
theorem dX4_isNone_3 : decode cX4_isNone 3 = .ok (.istore_n 2, 1) := by decide +kernel
theorem dX4_isNone_4 : decode cX4_isNone 4 = .ok (.iload_n 2, 1) := by decide +kernel
theorem dX4_isNone_5 : decode cX4_isNone 5 = .ok (.sipush 880, 3) := by decide +kernel
theorem dX4_isNone_8 : decode cX4_isNone 8 = .ok (.if_icmp .ge 25, 3) := by decide +kernel
theorem dX4_isNone_11 : decode cX4_isNone 11 = .ok (.iload_n 1, 1) := by decide +kernel
theorem dX4_isNone_12 : decode cX4_isNone 12 = .ok (.ifCond .eq 13, 3) := by decide +kernel
theorem dX4_isNone_15 : decode cX4_isNone 15 = .ok (.aload_n 0, 1) := by decide +kernel
theorem dX4_isNone_16 : decode cX4_isNone 16 = .ok (.iload_n 2, 1) := by decide +kernel
theorem dX4_isNone_17 : decode cX4_isNone 17 = .ok (.iaload, 1) := by decide +kernel
theorem dX4_isNone_18 : decode cX4_isNone 18 = .ok (.ifCond .ne 7, 3) := by decide +kernel
theorem dX4_isNone_21 : decode cX4_isNone 21 = .ok (.iconst 1, 1) := by decide +kernel
theorem dX4_isNone_22 : decode cX4_isNone 22 = .ok (.goto 4, 3) := by decide +kernel
theorem dX4_isNone_25 : decode cX4_isNone 25 = .ok (.iconst 0, 1) := by decide +kernel
theorem dX4_isNone_26 : decode cX4_isNone 26 = .ok (.istore_n 1, 1) := by decide +kernel
theorem dX4_isNone_27 : decode cX4_isNone 27 = .ok (.iinc 2 1, 3) := by decide +kernel
theorem dX4_isNone_30 : decode cX4_isNone 30 = .ok (.goto (-26), 3) := by decide +kernel
theorem dX4_isNone_33 : decode cX4_isNone 33 = .ok (.iload_n 1, 1) := by decide +kernel
theorem dX4_isNone_34 : decode cX4_isNone 34 = .ok (.ireturn, 1) := by decide +kernel
theorem dX4_head_0 : decode cX4_head 0 = .ok (.iload_n 1, 1) := by decide +kernel
theorem dX4_head_1 : decode cX4_head 1 = .ok (.iconst 1, 1) := by decide +kernel
theorem dX4_head_2 : decode cX4_head 2 = .ok (.isub, 1) := by decide +kernel
theorem dX4_head_3 : decode cX4_head 3 = .ok (.istore_n 2, 1) := by decide +kernel
theorem dX4_head_4 : decode cX4_head 4 = .ok (.iload_n 2, 1) := by decide +kernel
theorem dX4_head_5 : decode cX4_head 5 = .ok (.ifCond .lt 15, 3) := by decide +kernel
theorem dX4_head_8 : decode cX4_head 8 = .ok (.aload_n 0, 1) := by decide +kernel
theorem dX4_head_9 : decode cX4_head 9 = .ok (.iload_n 2, 1) := by decide +kernel
theorem dX4_head_10 : decode cX4_head 10 = .ok (.iaload, 1) := by decide +kernel
theorem dX4_head_11 : decode cX4_head 11 = .ok (.ifCond .ne 9, 3) := by decide +kernel
theorem dX4_head_14 : decode cX4_head 14 = .ok (.iinc 2 (-1), 3) := by decide +kernel
theorem dX4_head_17 : decode cX4_head 17 = .ok (.goto (-13), 3) := by decide +kernel
theorem dX4_head_20 : decode cX4_head 20 = .ok (.iload_n 2, 1) := by decide +kernel
theorem dX4_head_21 : decode cX4_head 21 = .ok (.ireturn, 1) := by decide +kernel
theorem dX4_load_0 : decode cX4_load 0 = .ok (.aload_n 1, 1) := by decide +kernel
theorem dX4_load_1 : decode cX4_load 1 = .ok (.invokestatic 68, 3) := by decide +kernel
theorem dX4_load_4 : decode cX4_load 4 = .ok (.iconst 0, 1) := by decide +kernel
theorem dX4_load_5 : decode cX4_load 5 = .ok (.istore 4, 2) := by decide +kernel
theorem dX4_load_7 : decode cX4_load 7 = .ok (.iload 4, 2) := by decide +kernel
theorem dX4_load_9 : decode cX4_load 9 = .ok (.bipush 49, 2) := by decide +kernel
theorem dX4_load_11 : decode cX4_load 11 = .ok (.if_icmp .ge 34, 3) := by decide +kernel
theorem dX4_load_14 : decode cX4_load 14 = .ok (.aload_n 1, 1) := by decide +kernel
theorem dX4_load_15 : decode cX4_load 15 = .ok (.bipush 40, 2) := by decide +kernel
theorem dX4_load_17 : decode cX4_load 17 = .ok (.iload 4, 2) := by decide +kernel
theorem dX4_load_19 : decode cX4_load 19 = .ok (.bipush 7, 2) := by decide +kernel
theorem dX4_load_21 : decode cX4_load 21 = .ok (.idiv, 1) := by decide +kernel
theorem dX4_load_22 : decode cX4_load 22 = .ok (.imul, 1) := by decide +kernel
theorem dX4_load_23 : decode cX4_load 23 = .ok (.iload 4, 2) := by decide +kernel
theorem dX4_load_25 : decode cX4_load 25 = .ok (.bipush 7, 2) := by decide +kernel
theorem dX4_load_27 : decode cX4_load 27 = .ok (.irem, 1) := by decide +kernel
theorem dX4_load_28 : decode cX4_load 28 = .ok (.iadd, 1) := by decide +kernel
theorem dX4_load_29 : decode cX4_load 29 = .ok (.aload_n 2, 1) := by decide +kernel
theorem dX4_load_30 : decode cX4_load 30 = .ok (.bipush 49, 2) := by decide +kernel
theorem dX4_load_32 : decode cX4_load 32 = .ok (.iload_n 3, 1) := by decide +kernel
theorem dX4_load_33 : decode cX4_load 33 = .ok (.imul, 1) := by decide +kernel
theorem dX4_load_34 : decode cX4_load 34 = .ok (.iload 4, 2) := by decide +kernel
theorem dX4_load_36 : decode cX4_load 36 = .ok (.iadd, 1) := by decide +kernel
theorem dX4_load_37 : decode cX4_load 37 = .ok (.iaload, 1) := by decide +kernel
theorem dX4_load_38 : decode cX4_load 38 = .ok (.iastore, 1) := by decide +kernel
theorem dX4_load_39 : decode cX4_load 39 = .ok (.iinc 4 1, 3) := by decide +kernel
theorem dX4_load_42 : decode cX4_load 42 = .ok (.goto (-35), 3) := by decide +kernel
theorem dX4_load_45 : decode cX4_load 45 = .ok (.return_, 1) := by decide +kernel
theorem dX4_multiply_0 : decode cX4_multiply 0 = .ok (.aload_n 1, 1) := by decide +kernel
theorem dX4_multiply_1 : decode cX4_multiply 1 = .ok (.invokestatic 68, 3) := by decide +kernel
theorem dX4_multiply_4 : decode cX4_multiply 4 = .ok (.aload_n 3, 1) := by decide +kernel
theorem dX4_multiply_5 : decode cX4_multiply 5 = .ok (.sipush 880, 3) := by decide +kernel
theorem dX4_multiply_8 : decode cX4_multiply 8 = .ok (.invokestatic 72, 3) := by decide +kernel
theorem dX4_multiply_11 : decode cX4_multiply 11 = .ok (.istore 4, 2) := by decide +kernel
theorem dX4_multiply_13 : decode cX4_multiply 13 = .ok (.aload_n 2, 1) := by decide +kernel
theorem dX4_multiply_14 : decode cX4_multiply 14 = .ok (.sipush 880, 3) := by decide +kernel
theorem dX4_multiply_17 : decode cX4_multiply 17 = .ok (.invokestatic 72, 3) := by decide +kernel
theorem dX4_multiply_20 : decode cX4_multiply 20 = .ok (.istore 5, 2) := by decide +kernel
theorem dX4_multiply_22 : decode cX4_multiply 22 = .ok (.iload 5, 2) := by decide +kernel
theorem dX4_multiply_24 : decode cX4_multiply 24 = .ok (.ifCond .lt 74, 3) := by decide +kernel
theorem dX4_multiply_27 : decode cX4_multiply 27 = .ok (.aload_n 2, 1) := by decide +kernel
theorem dX4_multiply_28 : decode cX4_multiply 28 = .ok (.iload 5, 2) := by decide +kernel
theorem dX4_multiply_30 : decode cX4_multiply 30 = .ok (.iaload, 1) := by decide +kernel
theorem dX4_multiply_31 : decode cX4_multiply 31 = .ok (.ifCond .ne 6, 3) := by decide +kernel
theorem dX4_multiply_34 : decode cX4_multiply 34 = .ok (.goto 58, 3) := by decide +kernel
theorem dX4_multiply_37 : decode cX4_multiply 37 = .ok (.iconst 0, 1) := by decide +kernel
theorem dX4_multiply_38 : decode cX4_multiply 38 = .ok (.istore 6, 2) := by decide +kernel
theorem dX4_multiply_40 : decode cX4_multiply 40 = .ok (.iload 6, 2) := by decide +kernel
theorem dX4_multiply_42 : decode cX4_multiply 42 = .ok (.iload 4, 2) := by decide +kernel
theorem dX4_multiply_44 : decode cX4_multiply 44 = .ok (.if_icmp .gt 48, 3) := by decide +kernel
theorem dX4_multiply_47 : decode cX4_multiply 47 = .ok (.aload_n 3, 1) := by decide +kernel
theorem dX4_multiply_48 : decode cX4_multiply 48 = .ok (.iload 6, 2) := by decide +kernel
theorem dX4_multiply_50 : decode cX4_multiply 50 = .ok (.iaload, 1) := by decide +kernel
theorem dX4_multiply_51 : decode cX4_multiply 51 = .ok (.ifCond .eq 35, 3) := by decide +kernel
theorem dX4_multiply_54 : decode cX4_multiply 54 = .ok (.aload_n 1, 1) := by decide +kernel
theorem dX4_multiply_55 : decode cX4_multiply 55 = .ok (.iload 5, 2) := by decide +kernel
theorem dX4_multiply_57 : decode cX4_multiply 57 = .ok (.iload 6, 2) := by decide +kernel
theorem dX4_multiply_59 : decode cX4_multiply 59 = .ok (.iadd, 1) := by decide +kernel
theorem dX4_multiply_60 : decode cX4_multiply 60 = .ok (.aload_n 1, 1) := by decide +kernel
theorem dX4_multiply_61 : decode cX4_multiply 61 = .ok (.iload 5, 2) := by decide +kernel
theorem dX4_multiply_63 : decode cX4_multiply 63 = .ok (.iload 6, 2) := by decide +kernel
theorem dX4_multiply_65 : decode cX4_multiply 65 = .ok (.iadd, 1) := by decide +kernel
theorem dX4_multiply_66 : decode cX4_multiply 66 = .ok (.iaload, 1) := by decide +kernel
theorem dX4_multiply_67 : decode cX4_multiply 67 = .ok (.i2l, 1) := by decide +kernel
theorem dX4_multiply_68 : decode cX4_multiply 68 = .ok (.aload_n 2, 1) := by decide +kernel
theorem dX4_multiply_69 : decode cX4_multiply 69 = .ok (.iload 5, 2) := by decide +kernel
theorem dX4_multiply_71 : decode cX4_multiply 71 = .ok (.iaload, 1) := by decide +kernel
theorem dX4_multiply_72 : decode cX4_multiply 72 = .ok (.i2l, 1) := by decide +kernel
theorem dX4_multiply_73 : decode cX4_multiply 73 = .ok (.aload_n 3, 1) := by decide +kernel
theorem dX4_multiply_74 : decode cX4_multiply 74 = .ok (.iload 6, 2) := by decide +kernel
theorem dX4_multiply_76 : decode cX4_multiply 76 = .ok (.iaload, 1) := by decide +kernel
theorem dX4_multiply_77 : decode cX4_multiply 77 = .ok (.i2l, 1) := by decide +kernel
theorem dX4_multiply_78 : decode cX4_multiply 78 = .ok (.lmul, 1) := by decide +kernel
theorem dX4_multiply_79 : decode cX4_multiply 79 = .ok (.ladd, 1) := by decide +kernel
theorem dX4_multiply_80 : decode cX4_multiply 80 = .ok (.ldc2_w 66, 3) := by decide +kernel
theorem dX4_multiply_83 : decode cX4_multiply 83 = .ok (.lrem, 1) := by decide +kernel
theorem dX4_multiply_84 : decode cX4_multiply 84 = .ok (.l2i, 1) := by decide +kernel
theorem dX4_multiply_85 : decode cX4_multiply 85 = .ok (.iastore, 1) := by decide +kernel
theorem dX4_multiply_86 : decode cX4_multiply 86 = .ok (.iinc 6 1, 3) := by decide +kernel
theorem dX4_multiply_89 : decode cX4_multiply 89 = .ok (.goto (-49), 3) := by decide +kernel
theorem dX4_multiply_92 : decode cX4_multiply 92 = .ok (.iinc 5 (-1), 3) := by decide +kernel
theorem dX4_multiply_95 : decode cX4_multiply 95 = .ok (.goto (-73), 3) := by decide +kernel
theorem dX4_multiply_98 : decode cX4_multiply 98 = .ok (.return_, 1) := by decide +kernel
theorem dX4_plus_0 : decode cX4_plus 0 = .ok (.iconst 0, 1) := by decide +kernel
theorem dX4_plus_1 : decode cX4_plus 1 = .ok (.istore_n 3, 1) := by decide +kernel
theorem dX4_plus_2 : decode cX4_plus 2 = .ok (.iload_n 3, 1) := by decide +kernel
theorem dX4_plus_3 : decode cX4_plus 3 = .ok (.sipush 880, 3) := by decide +kernel
theorem dX4_plus_6 : decode cX4_plus 6 = .ok (.if_icmp .ge 27, 3) := by decide +kernel
theorem dX4_plus_9 : decode cX4_plus 9 = .ok (.aload_n 0, 1) := by decide +kernel
theorem dX4_plus_10 : decode cX4_plus 10 = .ok (.iload_n 3, 1) := by decide +kernel
theorem dX4_plus_11 : decode cX4_plus 11 = .ok (.aload_n 0, 1) := by decide +kernel
theorem dX4_plus_12 : decode cX4_plus 12 = .ok (.iload_n 3, 1) := by decide +kernel
theorem dX4_plus_13 : decode cX4_plus 13 = .ok (.iaload, 1) := by decide +kernel
theorem dX4_plus_14 : decode cX4_plus 14 = .ok (.i2l, 1) := by decide +kernel
theorem dX4_plus_15 : decode cX4_plus 15 = .ok (.iload_n 2, 1) := by decide +kernel
theorem dX4_plus_16 : decode cX4_plus 16 = .ok (.i2l, 1) := by decide +kernel
theorem dX4_plus_17 : decode cX4_plus 17 = .ok (.aload_n 1, 1) := by decide +kernel
theorem dX4_plus_18 : decode cX4_plus 18 = .ok (.iload_n 3, 1) := by decide +kernel
theorem dX4_plus_19 : decode cX4_plus 19 = .ok (.iaload, 1) := by decide +kernel
theorem dX4_plus_20 : decode cX4_plus 20 = .ok (.i2l, 1) := by decide +kernel
theorem dX4_plus_21 : decode cX4_plus 21 = .ok (.lmul, 1) := by decide +kernel
theorem dX4_plus_22 : decode cX4_plus 22 = .ok (.ladd, 1) := by decide +kernel
theorem dX4_plus_23 : decode cX4_plus 23 = .ok (.invokestatic 76, 3) := by decide +kernel
theorem dX4_plus_26 : decode cX4_plus 26 = .ok (.iastore, 1) := by decide +kernel
theorem dX4_plus_27 : decode cX4_plus 27 = .ok (.iinc 3 1, 3) := by decide +kernel
theorem dX4_plus_30 : decode cX4_plus 30 = .ok (.goto (-28), 3) := by decide +kernel
theorem dX4_plus_33 : decode cX4_plus 33 = .ok (.return_, 1) := by decide +kernel
theorem dX4_slope_0 : decode cX4_slope 0 = .ok (.aload_n 0, 1) := by decide +kernel
theorem dX4_slope_1 : decode cX4_slope 1 = .ok (.invokestatic 68, 3) := by decide +kernel
theorem dX4_slope_4 : decode cX4_slope 4 = .ok (.iconst 0, 1) := by decide +kernel
theorem dX4_slope_5 : decode cX4_slope 5 = .ok (.istore_n 3, 1) := by decide +kernel
theorem dX4_slope_6 : decode cX4_slope 6 = .ok (.iload_n 3, 1) := by decide +kernel
theorem dX4_slope_7 : decode cX4_slope 7 = .ok (.sipush 880, 3) := by decide +kernel
theorem dX4_slope_10 : decode cX4_slope 10 = .ok (.if_icmp .ge 48, 3) := by decide +kernel
theorem dX4_slope_13 : decode cX4_slope 13 = .ok (.iload_n 2, 1) := by decide +kernel
theorem dX4_slope_14 : decode cX4_slope 14 = .ok (.iconst 1, 1) := by decide +kernel
theorem dX4_slope_15 : decode cX4_slope 15 = .ok (.if_icmp .ne 10, 3) := by decide +kernel
theorem dX4_slope_18 : decode cX4_slope 18 = .ok (.iload_n 3, 1) := by decide +kernel
theorem dX4_slope_19 : decode cX4_slope 19 = .ok (.bipush 40, 2) := by decide +kernel
theorem dX4_slope_21 : decode cX4_slope 21 = .ok (.irem, 1) := by decide +kernel
theorem dX4_slope_22 : decode cX4_slope 22 = .ok (.goto 7, 3) := by decide +kernel
theorem dX4_slope_25 : decode cX4_slope 25 = .ok (.iload_n 3, 1) := by decide +kernel
theorem dX4_slope_26 : decode cX4_slope 26 = .ok (.bipush 40, 2) := by decide +kernel
theorem dX4_slope_28 : decode cX4_slope 28 = .ok (.idiv, 1) := by decide +kernel
theorem dX4_slope_29 : decode cX4_slope 29 = .ok (.istore 4, 2) := by decide +kernel
theorem dX4_slope_31 : decode cX4_slope 31 = .ok (.iload 4, 2) := by decide +kernel
theorem dX4_slope_33 : decode cX4_slope 33 = .ok (.ifCond .le 19, 3) := by decide +kernel
theorem dX4_slope_36 : decode cX4_slope 36 = .ok (.aload_n 0, 1) := by decide +kernel
theorem dX4_slope_37 : decode cX4_slope 37 = .ok (.iload_n 3, 1) := by decide +kernel
theorem dX4_slope_38 : decode cX4_slope 38 = .ok (.iload_n 2, 1) := by decide +kernel
theorem dX4_slope_39 : decode cX4_slope 39 = .ok (.isub, 1) := by decide +kernel
theorem dX4_slope_40 : decode cX4_slope 40 = .ok (.aload_n 1, 1) := by decide +kernel
theorem dX4_slope_41 : decode cX4_slope 41 = .ok (.iload_n 3, 1) := by decide +kernel
theorem dX4_slope_42 : decode cX4_slope 42 = .ok (.iaload, 1) := by decide +kernel
theorem dX4_slope_43 : decode cX4_slope 43 = .ok (.i2l, 1) := by decide +kernel
theorem dX4_slope_44 : decode cX4_slope 44 = .ok (.iload 4, 2) := by decide +kernel
theorem dX4_slope_46 : decode cX4_slope 46 = .ok (.i2l, 1) := by decide +kernel
theorem dX4_slope_47 : decode cX4_slope 47 = .ok (.lmul, 1) := by decide +kernel
theorem dX4_slope_48 : decode cX4_slope 48 = .ok (.invokestatic 76, 3) := by decide +kernel
theorem dX4_slope_51 : decode cX4_slope 51 = .ok (.iastore, 1) := by decide +kernel
theorem dX4_slope_52 : decode cX4_slope 52 = .ok (.iinc 3 1, 3) := by decide +kernel
theorem dX4_slope_55 : decode cX4_slope 55 = .ok (.goto (-49), 3) := by decide +kernel
theorem dX4_slope_58 : decode cX4_slope 58 = .ok (.return_, 1) := by decide +kernel
theorem dX4_reduce_0 : decode cX4_reduce 0 = .ok (.aload_n 0, 1) := by decide +kernel
theorem dX4_reduce_1 : decode cX4_reduce 1 = .ok (.iconst 0, 1) := by decide +kernel
theorem dX4_reduce_2 : decode cX4_reduce 2 = .ok (.putfield 80, 3) := by decide +kernel
theorem dX4_reduce_5 : decode cX4_reduce 5 = .ok (.iconst 0, 1) := by decide +kernel
theorem dX4_reduce_6 : decode cX4_reduce 6 = .ok (.istore_n 1, 1) := by decide +kernel
theorem dX4_reduce_7 : decode cX4_reduce 7 = .ok (.iload_n 1, 1) := by decide +kernel
theorem dX4_reduce_8 : decode cX4_reduce 8 = .ok (.bipush 49, 2) := by decide +kernel
theorem dX4_reduce_10 : decode cX4_reduce 10 = .ok (.if_icmp .ge 60, 3) := by decide +kernel
theorem dX4_reduce_13 : decode cX4_reduce 13 = .ok (.bipush 40, 2) := by decide +kernel
theorem dX4_reduce_15 : decode cX4_reduce 15 = .ok (.iload_n 1, 1) := by decide +kernel
theorem dX4_reduce_16 : decode cX4_reduce 16 = .ok (.bipush 7, 2) := by decide +kernel
theorem dX4_reduce_18 : decode cX4_reduce 18 = .ok (.idiv, 1) := by decide +kernel
theorem dX4_reduce_19 : decode cX4_reduce 19 = .ok (.imul, 1) := by decide +kernel
theorem dX4_reduce_20 : decode cX4_reduce 20 = .ok (.iload_n 1, 1) := by decide +kernel
theorem dX4_reduce_21 : decode cX4_reduce 21 = .ok (.bipush 7, 2) := by decide +kernel
theorem dX4_reduce_23 : decode cX4_reduce 23 = .ok (.irem, 1) := by decide +kernel
theorem dX4_reduce_24 : decode cX4_reduce 24 = .ok (.iadd, 1) := by decide +kernel
theorem dX4_reduce_25 : decode cX4_reduce 25 = .ok (.istore_n 2, 1) := by decide +kernel
theorem dX4_reduce_26 : decode cX4_reduce 26 = .ok (.aload_n 0, 1) := by decide +kernel
theorem dX4_reduce_27 : decode cX4_reduce 27 = .ok (.aload_n 0, 1) := by decide +kernel
theorem dX4_reduce_28 : decode cX4_reduce 28 = .ok (.getfield 37, 3) := by decide +kernel
theorem dX4_reduce_31 : decode cX4_reduce 31 = .ok (.iload_n 2, 1) := by decide +kernel
theorem dX4_reduce_32 : decode cX4_reduce 32 = .ok (.iconst 2, 1) := by decide +kernel
theorem dX4_reduce_33 : decode cX4_reduce 33 = .ok (.iload_n 1, 1) := by decide +kernel
theorem dX4_reduce_34 : decode cX4_reduce 34 = .ok (.imul, 1) := by decide +kernel
theorem dX4_reduce_35 : decode cX4_reduce 35 = .ok (.invokevirtual 83, 3) := by decide +kernel
theorem dX4_reduce_38 : decode cX4_reduce 38 = .ok (.ifCond .ne 20, 3) := by decide +kernel
theorem dX4_reduce_41 : decode cX4_reduce 41 = .ok (.aload_n 0, 1) := by decide +kernel
theorem dX4_reduce_42 : decode cX4_reduce 42 = .ok (.aload_n 0, 1) := by decide +kernel
theorem dX4_reduce_43 : decode cX4_reduce 43 = .ok (.getfield 40, 3) := by decide +kernel
theorem dX4_reduce_46 : decode cX4_reduce 46 = .ok (.iload_n 2, 1) := by decide +kernel
theorem dX4_reduce_47 : decode cX4_reduce 47 = .ok (.iconst 2, 1) := by decide +kernel
theorem dX4_reduce_48 : decode cX4_reduce 48 = .ok (.iload_n 1, 1) := by decide +kernel
theorem dX4_reduce_49 : decode cX4_reduce 49 = .ok (.imul, 1) := by decide +kernel
theorem dX4_reduce_50 : decode cX4_reduce 50 = .ok (.iconst 1, 1) := by decide +kernel
theorem dX4_reduce_51 : decode cX4_reduce 51 = .ok (.iadd, 1) := by decide +kernel
theorem dX4_reduce_52 : decode cX4_reduce 52 = .ok (.invokevirtual 83, 3) := by decide +kernel
theorem dX4_reduce_55 : decode cX4_reduce 55 = .ok (.ifCond .eq 9, 3) := by decide +kernel
theorem dX4_reduce_58 : decode cX4_reduce 58 = .ok (.aload_n 0, 1) := by decide +kernel
theorem dX4_reduce_59 : decode cX4_reduce 59 = .ok (.invokevirtual 87, 3) := by decide +kernel
theorem dX4_reduce_62 : decode cX4_reduce 62 = .ok (.iconst 1, 1) := by decide +kernel
theorem dX4_reduce_63 : decode cX4_reduce 63 = .ok (.ireturn, 1) := by decide +kernel
theorem dX4_reduce_64 : decode cX4_reduce 64 = .ok (.iinc 1 1, 3) := by decide +kernel
theorem dX4_reduce_67 : decode cX4_reduce 67 = .ok (.goto (-60), 3) := by decide +kernel
theorem dX4_reduce_70 : decode cX4_reduce 70 = .ok (.iconst 0, 1) := by decide +kernel
theorem dX4_reduce_71 : decode cX4_reduce 71 = .ok (.ireturn, 1) := by decide +kernel
theorem dX4_hangs_0 : decode cX4_hangs 0 = .ok (.aload_n 0, 1) := by decide +kernel
theorem dX4_hangs_1 : decode cX4_hangs 1 = .ok (.getfield 53, 3) := by decide +kernel
theorem dX4_hangs_4 : decode cX4_hangs 4 = .ok (.invokestatic 68, 3) := by decide +kernel
theorem dX4_hangs_7 : decode cX4_hangs 7 = .ok (.aload_n 1, 1) := by decide +kernel
theorem dX4_hangs_8 : decode cX4_hangs 8 = .ok (.sipush 880, 3) := by decide +kernel
theorem dX4_hangs_11 : decode cX4_hangs 11 = .ok (.invokestatic 72, 3) := by decide +kernel
theorem dX4_hangs_14 : decode cX4_hangs 14 = .ok (.istore 4, 2) := by decide +kernel
theorem dX4_hangs_16 : decode cX4_hangs 16 = .ok (.iconst 0, 1) := by decide +kernel
theorem dX4_hangs_17 : decode cX4_hangs 17 = .ok (.istore 5, 2) := by decide +kernel
theorem dX4_hangs_19 : decode cX4_hangs 19 = .ok (.iload 5, 2) := by decide +kernel
theorem dX4_hangs_21 : decode cX4_hangs 21 = .ok (.iload 4, 2) := by decide +kernel
theorem dX4_hangs_23 : decode cX4_hangs 23 = .ok (.if_icmp .gt 22, 3) := by decide +kernel
theorem dX4_hangs_26 : decode cX4_hangs 26 = .ok (.aload_n 0, 1) := by decide +kernel
theorem dX4_hangs_27 : decode cX4_hangs 27 = .ok (.getfield 53, 3) := by decide +kernel
theorem dX4_hangs_30 : decode cX4_hangs 30 = .ok (.iload 5, 2) := by decide +kernel
theorem dX4_hangs_32 : decode cX4_hangs 32 = .ok (.iload_n 2, 1) := by decide +kernel
theorem dX4_hangs_33 : decode cX4_hangs 33 = .ok (.iadd, 1) := by decide +kernel
theorem dX4_hangs_34 : decode cX4_hangs 34 = .ok (.aload_n 1, 1) := by decide +kernel
theorem dX4_hangs_35 : decode cX4_hangs 35 = .ok (.iload 5, 2) := by decide +kernel
theorem dX4_hangs_37 : decode cX4_hangs 37 = .ok (.iaload, 1) := by decide +kernel
theorem dX4_hangs_38 : decode cX4_hangs 38 = .ok (.iastore, 1) := by decide +kernel
theorem dX4_hangs_39 : decode cX4_hangs 39 = .ok (.iinc 5 1, 3) := by decide +kernel
theorem dX4_hangs_42 : decode cX4_hangs 42 = .ok (.goto (-23), 3) := by decide +kernel
theorem dX4_hangs_45 : decode cX4_hangs 45 = .ok (.iconst 0, 1) := by decide +kernel
theorem dX4_hangs_46 : decode cX4_hangs 46 = .ok (.istore 5, 2) := by decide +kernel
theorem dX4_hangs_48 : decode cX4_hangs 48 = .ok (.iload 5, 2) := by decide +kernel
theorem dX4_hangs_50 : decode cX4_hangs 50 = .ok (.bipush 98, 2) := by decide +kernel
theorem dX4_hangs_52 : decode cX4_hangs 52 = .ok (.if_icmp .ge 27, 3) := by decide +kernel
theorem dX4_hangs_55 : decode cX4_hangs 55 = .ok (.aload_n 0, 1) := by decide +kernel
theorem dX4_hangs_56 : decode cX4_hangs 56 = .ok (.getfield 56, 3) := by decide +kernel
theorem dX4_hangs_59 : decode cX4_hangs 59 = .ok (.iload 5, 2) := by decide +kernel
theorem dX4_hangs_61 : decode cX4_hangs 61 = .ok (.iload 5, 2) := by decide +kernel
theorem dX4_hangs_63 : decode cX4_hangs 63 = .ok (.iload_n 3, 1) := by decide +kernel
theorem dX4_hangs_64 : decode cX4_hangs 64 = .ok (.if_icmp .ne 7, 3) := by decide +kernel
theorem dX4_hangs_67 : decode cX4_hangs 67 = .ok (.iconst 1, 1) := by decide +kernel
theorem dX4_hangs_68 : decode cX4_hangs 68 = .ok (.goto 4, 3) := by decide +kernel
theorem dX4_hangs_71 : decode cX4_hangs 71 = .ok (.iconst 0, 1) := by decide +kernel
theorem dX4_hangs_72 : decode cX4_hangs 72 = .ok (.iastore, 1) := by decide +kernel
theorem dX4_hangs_73 : decode cX4_hangs 73 = .ok (.iinc 5 1, 3) := by decide +kernel
theorem dX4_hangs_76 : decode cX4_hangs 76 = .ok (.goto (-28), 3) := by decide +kernel
theorem dX4_hangs_79 : decode cX4_hangs 79 = .ok (.iconst 0, 1) := by decide +kernel
theorem dX4_hangs_80 : decode cX4_hangs 80 = .ok (.istore 5, 2) := by decide +kernel
theorem dX4_hangs_82 : decode cX4_hangs 82 = .ok (.iload 5, 2) := by decide +kernel
theorem dX4_hangs_84 : decode cX4_hangs 84 = .ok (.aload_n 0, 1) := by decide +kernel
theorem dX4_hangs_85 : decode cX4_hangs 85 = .ok (.getfield 80, 3) := by decide +kernel
theorem dX4_hangs_88 : decode cX4_hangs 88 = .ok (.if_icmp .ge 156, 3) := by decide +kernel
theorem dX4_hangs_91 : decode cX4_hangs 91 = .ok (.aload_n 0, 1) := by decide +kernel
theorem dX4_hangs_92 : decode cX4_hangs 92 = .ok (.getfield 53, 3) := by decide +kernel
theorem dX4_hangs_95 : decode cX4_hangs 95 = .ok (.aload_n 0, 1) := by decide +kernel
theorem dX4_hangs_96 : decode cX4_hangs 96 = .ok (.getfield 43, 3) := by decide +kernel
theorem dX4_hangs_99 : decode cX4_hangs 99 = .ok (.iload 5, 2) := by decide +kernel
theorem dX4_hangs_101 : decode cX4_hangs 101 = .ok (.iaload, 1) := by decide +kernel
theorem dX4_hangs_102 : decode cX4_hangs 102 = .ok (.iaload, 1) := by decide +kernel
theorem dX4_hangs_103 : decode cX4_hangs 103 = .ok (.istore 6, 2) := by decide +kernel
theorem dX4_hangs_105 : decode cX4_hangs 105 = .ok (.iload 6, 2) := by decide +kernel
theorem dX4_hangs_107 : decode cX4_hangs 107 = .ok (.ifCond .ne 6, 3) := by decide +kernel
theorem dX4_hangs_110 : decode cX4_hangs 110 = .ok (.goto 128, 3) := by decide +kernel
theorem dX4_hangs_113 : decode cX4_hangs 113 = .ok (.iconst 0, 1) := by decide +kernel
theorem dX4_hangs_114 : decode cX4_hangs 114 = .ok (.istore 7, 2) := by decide +kernel
theorem dX4_hangs_116 : decode cX4_hangs 116 = .ok (.iload 7, 2) := by decide +kernel
theorem dX4_hangs_118 : decode cX4_hangs 118 = .ok (.sipush 880, 3) := by decide +kernel
theorem dX4_hangs_121 : decode cX4_hangs 121 = .ok (.if_icmp .ge 64, 3) := by decide +kernel
theorem dX4_hangs_124 : decode cX4_hangs 124 = .ok (.aload_n 0, 1) := by decide +kernel
theorem dX4_hangs_125 : decode cX4_hangs 125 = .ok (.getfield 47, 3) := by decide +kernel
theorem dX4_hangs_128 : decode cX4_hangs 128 = .ok (.sipush 880, 3) := by decide +kernel
theorem dX4_hangs_131 : decode cX4_hangs 131 = .ok (.iload 5, 2) := by decide +kernel
theorem dX4_hangs_133 : decode cX4_hangs 133 = .ok (.imul, 1) := by decide +kernel
theorem dX4_hangs_134 : decode cX4_hangs 134 = .ok (.iload 7, 2) := by decide +kernel
theorem dX4_hangs_136 : decode cX4_hangs 136 = .ok (.iadd, 1) := by decide +kernel
theorem dX4_hangs_137 : decode cX4_hangs 137 = .ok (.iaload, 1) := by decide +kernel
theorem dX4_hangs_138 : decode cX4_hangs 138 = .ok (.ifCond .eq 41, 3) := by decide +kernel
theorem dX4_hangs_141 : decode cX4_hangs 141 = .ok (.aload_n 0, 1) := by decide +kernel
theorem dX4_hangs_142 : decode cX4_hangs 142 = .ok (.getfield 53, 3) := by decide +kernel
theorem dX4_hangs_145 : decode cX4_hangs 145 = .ok (.iload 7, 2) := by decide +kernel
theorem dX4_hangs_147 : decode cX4_hangs 147 = .ok (.aload_n 0, 1) := by decide +kernel
theorem dX4_hangs_148 : decode cX4_hangs 148 = .ok (.getfield 53, 3) := by decide +kernel
theorem dX4_hangs_151 : decode cX4_hangs 151 = .ok (.iload 7, 2) := by decide +kernel
theorem dX4_hangs_153 : decode cX4_hangs 153 = .ok (.iaload, 1) := by decide +kernel
theorem dX4_hangs_154 : decode cX4_hangs 154 = .ok (.i2l, 1) := by decide +kernel
theorem dX4_hangs_155 : decode cX4_hangs 155 = .ok (.iload 6, 2) := by decide +kernel
theorem dX4_hangs_157 : decode cX4_hangs 157 = .ok (.i2l, 1) := by decide +kernel
theorem dX4_hangs_158 : decode cX4_hangs 158 = .ok (.aload_n 0, 1) := by decide +kernel
theorem dX4_hangs_159 : decode cX4_hangs 159 = .ok (.getfield 47, 3) := by decide +kernel
theorem dX4_hangs_162 : decode cX4_hangs 162 = .ok (.sipush 880, 3) := by decide +kernel
theorem dX4_hangs_165 : decode cX4_hangs 165 = .ok (.iload 5, 2) := by decide +kernel
theorem dX4_hangs_167 : decode cX4_hangs 167 = .ok (.imul, 1) := by decide +kernel
theorem dX4_hangs_168 : decode cX4_hangs 168 = .ok (.iload 7, 2) := by decide +kernel
theorem dX4_hangs_170 : decode cX4_hangs 170 = .ok (.iadd, 1) := by decide +kernel
theorem dX4_hangs_171 : decode cX4_hangs 171 = .ok (.iaload, 1) := by decide +kernel
theorem dX4_hangs_172 : decode cX4_hangs 172 = .ok (.i2l, 1) := by decide +kernel
theorem dX4_hangs_173 : decode cX4_hangs 173 = .ok (.lmul, 1) := by decide +kernel
theorem dX4_hangs_174 : decode cX4_hangs 174 = .ok (.lsub, 1) := by decide +kernel
theorem dX4_hangs_175 : decode cX4_hangs 175 = .ok (.invokestatic 76, 3) := by decide +kernel
theorem dX4_hangs_178 : decode cX4_hangs 178 = .ok (.iastore, 1) := by decide +kernel
theorem dX4_hangs_179 : decode cX4_hangs 179 = .ok (.iinc 7 1, 3) := by decide +kernel
theorem dX4_hangs_182 : decode cX4_hangs 182 = .ok (.goto (-66), 3) := by decide +kernel
theorem dX4_hangs_185 : decode cX4_hangs 185 = .ok (.iconst 0, 1) := by decide +kernel
theorem dX4_hangs_186 : decode cX4_hangs 186 = .ok (.istore 7, 2) := by decide +kernel
theorem dX4_hangs_188 : decode cX4_hangs 188 = .ok (.iload 7, 2) := by decide +kernel
theorem dX4_hangs_190 : decode cX4_hangs 190 = .ok (.bipush 98, 2) := by decide +kernel
theorem dX4_hangs_192 : decode cX4_hangs 192 = .ok (.if_icmp .ge 46, 3) := by decide +kernel
theorem dX4_hangs_195 : decode cX4_hangs 195 = .ok (.aload_n 0, 1) := by decide +kernel
theorem dX4_hangs_196 : decode cX4_hangs 196 = .ok (.getfield 56, 3) := by decide +kernel
theorem dX4_hangs_199 : decode cX4_hangs 199 = .ok (.iload 7, 2) := by decide +kernel
theorem dX4_hangs_201 : decode cX4_hangs 201 = .ok (.aload_n 0, 1) := by decide +kernel
theorem dX4_hangs_202 : decode cX4_hangs 202 = .ok (.getfield 56, 3) := by decide +kernel
theorem dX4_hangs_205 : decode cX4_hangs 205 = .ok (.iload 7, 2) := by decide +kernel
theorem dX4_hangs_207 : decode cX4_hangs 207 = .ok (.iaload, 1) := by decide +kernel
theorem dX4_hangs_208 : decode cX4_hangs 208 = .ok (.i2l, 1) := by decide +kernel
theorem dX4_hangs_209 : decode cX4_hangs 209 = .ok (.iload 6, 2) := by decide +kernel
theorem dX4_hangs_211 : decode cX4_hangs 211 = .ok (.i2l, 1) := by decide +kernel
theorem dX4_hangs_212 : decode cX4_hangs 212 = .ok (.aload_n 0, 1) := by decide +kernel
theorem dX4_hangs_213 : decode cX4_hangs 213 = .ok (.getfield 50, 3) := by decide +kernel
theorem dX4_hangs_216 : decode cX4_hangs 216 = .ok (.bipush 98, 2) := by decide +kernel
theorem dX4_hangs_218 : decode cX4_hangs 218 = .ok (.iload 5, 2) := by decide +kernel
theorem dX4_hangs_220 : decode cX4_hangs 220 = .ok (.imul, 1) := by decide +kernel
theorem dX4_hangs_221 : decode cX4_hangs 221 = .ok (.iload 7, 2) := by decide +kernel
theorem dX4_hangs_223 : decode cX4_hangs 223 = .ok (.iadd, 1) := by decide +kernel
theorem dX4_hangs_224 : decode cX4_hangs 224 = .ok (.iaload, 1) := by decide +kernel
theorem dX4_hangs_225 : decode cX4_hangs 225 = .ok (.i2l, 1) := by decide +kernel
theorem dX4_hangs_226 : decode cX4_hangs 226 = .ok (.lmul, 1) := by decide +kernel
theorem dX4_hangs_227 : decode cX4_hangs 227 = .ok (.lsub, 1) := by decide +kernel
theorem dX4_hangs_228 : decode cX4_hangs 228 = .ok (.invokestatic 76, 3) := by decide +kernel
theorem dX4_hangs_231 : decode cX4_hangs 231 = .ok (.iastore, 1) := by decide +kernel
theorem dX4_hangs_232 : decode cX4_hangs 232 = .ok (.iinc 7 1, 3) := by decide +kernel
theorem dX4_hangs_235 : decode cX4_hangs 235 = .ok (.goto (-47), 3) := by decide +kernel
theorem dX4_hangs_238 : decode cX4_hangs 238 = .ok (.iinc 5 1, 3) := by decide +kernel
theorem dX4_hangs_241 : decode cX4_hangs 241 = .ok (.goto (-159), 3) := by decide +kernel
theorem dX4_hangs_244 : decode cX4_hangs 244 = .ok (.aload_n 0, 1) := by decide +kernel
theorem dX4_hangs_245 : decode cX4_hangs 245 = .ok (.getfield 53, 3) := by decide +kernel
theorem dX4_hangs_248 : decode cX4_hangs 248 = .ok (.sipush 880, 3) := by decide +kernel
theorem dX4_hangs_251 : decode cX4_hangs 251 = .ok (.invokestatic 72, 3) := by decide +kernel
theorem dX4_hangs_254 : decode cX4_hangs 254 = .ok (.istore 5, 2) := by decide +kernel
theorem dX4_hangs_256 : decode cX4_hangs 256 = .ok (.iload 5, 2) := by decide +kernel
theorem dX4_hangs_258 : decode cX4_hangs 258 = .ok (.ifCond .ge 5, 3) := by decide +kernel
theorem dX4_hangs_261 : decode cX4_hangs 261 = .ok (.iconst 1, 1) := by decide +kernel
theorem dX4_hangs_262 : decode cX4_hangs 262 = .ok (.ireturn, 1) := by decide +kernel
theorem dX4_hangs_263 : decode cX4_hangs 263 = .ok (.aload_n 0, 1) := by decide +kernel
theorem dX4_hangs_264 : decode cX4_hangs 264 = .ok (.getfield 53, 3) := by decide +kernel
theorem dX4_hangs_267 : decode cX4_hangs 267 = .ok (.iload 5, 2) := by decide +kernel
theorem dX4_hangs_269 : decode cX4_hangs 269 = .ok (.iaload, 1) := by decide +kernel
theorem dX4_hangs_270 : decode cX4_hangs 270 = .ok (.invokestatic 90, 3) := by decide +kernel
theorem dX4_hangs_273 : decode cX4_hangs 273 = .ok (.istore 6, 2) := by decide +kernel
theorem dX4_hangs_275 : decode cX4_hangs 275 = .ok (.aload_n 0, 1) := by decide +kernel
theorem dX4_hangs_276 : decode cX4_hangs 276 = .ok (.getfield 43, 3) := by decide +kernel
theorem dX4_hangs_279 : decode cX4_hangs 279 = .ok (.aload_n 0, 1) := by decide +kernel
theorem dX4_hangs_280 : decode cX4_hangs 280 = .ok (.getfield 80, 3) := by decide +kernel
theorem dX4_hangs_283 : decode cX4_hangs 283 = .ok (.iload 5, 2) := by decide +kernel
theorem dX4_hangs_285 : decode cX4_hangs 285 = .ok (.iastore, 1) := by decide +kernel
theorem dX4_hangs_286 : decode cX4_hangs 286 = .ok (.iconst 0, 1) := by decide +kernel
theorem dX4_hangs_287 : decode cX4_hangs 287 = .ok (.istore 7, 2) := by decide +kernel
theorem dX4_hangs_289 : decode cX4_hangs 289 = .ok (.iload 7, 2) := by decide +kernel
theorem dX4_hangs_291 : decode cX4_hangs 291 = .ok (.sipush 880, 3) := by decide +kernel
theorem dX4_hangs_294 : decode cX4_hangs 294 = .ok (.if_icmp .ge 42, 3) := by decide +kernel
theorem dX4_hangs_297 : decode cX4_hangs 297 = .ok (.aload_n 0, 1) := by decide +kernel
theorem dX4_hangs_298 : decode cX4_hangs 298 = .ok (.getfield 47, 3) := by decide +kernel
theorem dX4_hangs_301 : decode cX4_hangs 301 = .ok (.sipush 880, 3) := by decide +kernel
theorem dX4_hangs_304 : decode cX4_hangs 304 = .ok (.aload_n 0, 1) := by decide +kernel
theorem dX4_hangs_305 : decode cX4_hangs 305 = .ok (.getfield 80, 3) := by decide +kernel
theorem dX4_hangs_308 : decode cX4_hangs 308 = .ok (.imul, 1) := by decide +kernel
theorem dX4_hangs_309 : decode cX4_hangs 309 = .ok (.iload 7, 2) := by decide +kernel
theorem dX4_hangs_311 : decode cX4_hangs 311 = .ok (.iadd, 1) := by decide +kernel
theorem dX4_hangs_312 : decode cX4_hangs 312 = .ok (.aload_n 0, 1) := by decide +kernel
theorem dX4_hangs_313 : decode cX4_hangs 313 = .ok (.getfield 53, 3) := by decide +kernel
theorem dX4_hangs_316 : decode cX4_hangs 316 = .ok (.iload 7, 2) := by decide +kernel
theorem dX4_hangs_318 : decode cX4_hangs 318 = .ok (.iaload, 1) := by decide +kernel
theorem dX4_hangs_319 : decode cX4_hangs 319 = .ok (.i2l, 1) := by decide +kernel
theorem dX4_hangs_320 : decode cX4_hangs 320 = .ok (.iload 6, 2) := by decide +kernel
theorem dX4_hangs_322 : decode cX4_hangs 322 = .ok (.i2l, 1) := by decide +kernel
theorem dX4_hangs_323 : decode cX4_hangs 323 = .ok (.lmul, 1) := by decide +kernel
theorem dX4_hangs_324 : decode cX4_hangs 324 = .ok (.ldc2_w 66, 3) := by decide +kernel
theorem dX4_hangs_327 : decode cX4_hangs 327 = .ok (.lrem, 1) := by decide +kernel
theorem dX4_hangs_328 : decode cX4_hangs 328 = .ok (.l2i, 1) := by decide +kernel
theorem dX4_hangs_329 : decode cX4_hangs 329 = .ok (.iastore, 1) := by decide +kernel
theorem dX4_hangs_330 : decode cX4_hangs 330 = .ok (.iinc 7 1, 3) := by decide +kernel
theorem dX4_hangs_333 : decode cX4_hangs 333 = .ok (.goto (-44), 3) := by decide +kernel
theorem dX4_hangs_336 : decode cX4_hangs 336 = .ok (.iconst 0, 1) := by decide +kernel
theorem dX4_hangs_337 : decode cX4_hangs 337 = .ok (.istore 7, 2) := by decide +kernel
theorem dX4_hangs_339 : decode cX4_hangs 339 = .ok (.iload 7, 2) := by decide +kernel
theorem dX4_hangs_341 : decode cX4_hangs 341 = .ok (.bipush 98, 2) := by decide +kernel
theorem dX4_hangs_343 : decode cX4_hangs 343 = .ok (.if_icmp .ge 41, 3) := by decide +kernel
theorem dX4_hangs_346 : decode cX4_hangs 346 = .ok (.aload_n 0, 1) := by decide +kernel
theorem dX4_hangs_347 : decode cX4_hangs 347 = .ok (.getfield 50, 3) := by decide +kernel
theorem dX4_hangs_350 : decode cX4_hangs 350 = .ok (.bipush 98, 2) := by decide +kernel
theorem dX4_hangs_352 : decode cX4_hangs 352 = .ok (.aload_n 0, 1) := by decide +kernel
theorem dX4_hangs_353 : decode cX4_hangs 353 = .ok (.getfield 80, 3) := by decide +kernel
theorem dX4_hangs_356 : decode cX4_hangs 356 = .ok (.imul, 1) := by decide +kernel
theorem dX4_hangs_357 : decode cX4_hangs 357 = .ok (.iload 7, 2) := by decide +kernel
theorem dX4_hangs_359 : decode cX4_hangs 359 = .ok (.iadd, 1) := by decide +kernel
theorem dX4_hangs_360 : decode cX4_hangs 360 = .ok (.aload_n 0, 1) := by decide +kernel
theorem dX4_hangs_361 : decode cX4_hangs 361 = .ok (.getfield 56, 3) := by decide +kernel
theorem dX4_hangs_364 : decode cX4_hangs 364 = .ok (.iload 7, 2) := by decide +kernel
theorem dX4_hangs_366 : decode cX4_hangs 366 = .ok (.iaload, 1) := by decide +kernel
theorem dX4_hangs_367 : decode cX4_hangs 367 = .ok (.i2l, 1) := by decide +kernel
theorem dX4_hangs_368 : decode cX4_hangs 368 = .ok (.iload 6, 2) := by decide +kernel
theorem dX4_hangs_370 : decode cX4_hangs 370 = .ok (.i2l, 1) := by decide +kernel
theorem dX4_hangs_371 : decode cX4_hangs 371 = .ok (.lmul, 1) := by decide +kernel
theorem dX4_hangs_372 : decode cX4_hangs 372 = .ok (.ldc2_w 66, 3) := by decide +kernel
theorem dX4_hangs_375 : decode cX4_hangs 375 = .ok (.lrem, 1) := by decide +kernel
theorem dX4_hangs_376 : decode cX4_hangs 376 = .ok (.l2i, 1) := by decide +kernel
theorem dX4_hangs_377 : decode cX4_hangs 377 = .ok (.iastore, 1) := by decide +kernel
theorem dX4_hangs_378 : decode cX4_hangs 378 = .ok (.iinc 7 1, 3) := by decide +kernel
theorem dX4_hangs_381 : decode cX4_hangs 381 = .ok (.goto (-42), 3) := by decide +kernel
theorem dX4_hangs_384 : decode cX4_hangs 384 = .ok (.aload_n 0, 1) := by decide +kernel
theorem dX4_hangs_385 : decode cX4_hangs 385 = .ok (.dup, 1) := by decide +kernel
theorem dX4_hangs_386 : decode cX4_hangs 386 = .ok (.getfield 80, 3) := by decide +kernel
theorem dX4_hangs_389 : decode cX4_hangs 389 = .ok (.iconst 1, 1) := by decide +kernel
theorem dX4_hangs_390 : decode cX4_hangs 390 = .ok (.iadd, 1) := by decide +kernel
theorem dX4_hangs_391 : decode cX4_hangs 391 = .ok (.putfield 80, 3) := by decide +kernel
theorem dX4_hangs_394 : decode cX4_hangs 394 = .ok (.iconst 0, 1) := by decide +kernel
theorem dX4_hangs_395 : decode cX4_hangs 395 = .ok (.ireturn, 1) := by decide +kernel
theorem dX4_settle_0 : decode cX4_settle 0 = .ok (.aload_n 0, 1) := by decide +kernel
theorem dX4_settle_1 : decode cX4_settle 1 = .ok (.getfield 37, 3) := by decide +kernel
theorem dX4_settle_4 : decode cX4_settle 4 = .ok (.invokestatic 68, 3) := by decide +kernel
theorem dX4_settle_7 : decode cX4_settle 7 = .ok (.aload_n 0, 1) := by decide +kernel
theorem dX4_settle_8 : decode cX4_settle 8 = .ok (.getfield 40, 3) := by decide +kernel
theorem dX4_settle_11 : decode cX4_settle 11 = .ok (.invokestatic 68, 3) := by decide +kernel
theorem dX4_settle_14 : decode cX4_settle 14 = .ok (.iconst 0, 1) := by decide +kernel
theorem dX4_settle_15 : decode cX4_settle 15 = .ok (.istore_n 1, 1) := by decide +kernel
theorem dX4_settle_16 : decode cX4_settle 16 = .ok (.iload_n 1, 1) := by decide +kernel
theorem dX4_settle_17 : decode cX4_settle 17 = .ok (.bipush 49, 2) := by decide +kernel
theorem dX4_settle_19 : decode cX4_settle 19 = .ok (.if_icmp .ge 57, 3) := by decide +kernel
theorem dX4_settle_22 : decode cX4_settle 22 = .ok (.bipush 40, 2) := by decide +kernel
theorem dX4_settle_24 : decode cX4_settle 24 = .ok (.iload_n 1, 1) := by decide +kernel
theorem dX4_settle_25 : decode cX4_settle 25 = .ok (.bipush 7, 2) := by decide +kernel
theorem dX4_settle_27 : decode cX4_settle 27 = .ok (.idiv, 1) := by decide +kernel
theorem dX4_settle_28 : decode cX4_settle 28 = .ok (.imul, 1) := by decide +kernel
theorem dX4_settle_29 : decode cX4_settle 29 = .ok (.iload_n 1, 1) := by decide +kernel
theorem dX4_settle_30 : decode cX4_settle 30 = .ok (.bipush 7, 2) := by decide +kernel
theorem dX4_settle_32 : decode cX4_settle 32 = .ok (.irem, 1) := by decide +kernel
theorem dX4_settle_33 : decode cX4_settle 33 = .ok (.iadd, 1) := by decide +kernel
theorem dX4_settle_34 : decode cX4_settle 34 = .ok (.istore_n 2, 1) := by decide +kernel
theorem dX4_settle_35 : decode cX4_settle 35 = .ok (.aload_n 0, 1) := by decide +kernel
theorem dX4_settle_36 : decode cX4_settle 36 = .ok (.getfield 40, 3) := by decide +kernel
theorem dX4_settle_39 : decode cX4_settle 39 = .ok (.iload_n 2, 1) := by decide +kernel
theorem dX4_settle_40 : decode cX4_settle 40 = .ok (.aload_n 0, 1) := by decide +kernel
theorem dX4_settle_41 : decode cX4_settle 41 = .ok (.getfield 56, 3) := by decide +kernel
theorem dX4_settle_44 : decode cX4_settle 44 = .ok (.iconst 2, 1) := by decide +kernel
theorem dX4_settle_45 : decode cX4_settle 45 = .ok (.iload_n 1, 1) := by decide +kernel
theorem dX4_settle_46 : decode cX4_settle 46 = .ok (.imul, 1) := by decide +kernel
theorem dX4_settle_47 : decode cX4_settle 47 = .ok (.iaload, 1) := by decide +kernel
theorem dX4_settle_48 : decode cX4_settle 48 = .ok (.iastore, 1) := by decide +kernel
theorem dX4_settle_49 : decode cX4_settle 49 = .ok (.aload_n 0, 1) := by decide +kernel
theorem dX4_settle_50 : decode cX4_settle 50 = .ok (.getfield 37, 3) := by decide +kernel
theorem dX4_settle_53 : decode cX4_settle 53 = .ok (.iload_n 2, 1) := by decide +kernel
theorem dX4_settle_54 : decode cX4_settle 54 = .ok (.aload_n 0, 1) := by decide +kernel
theorem dX4_settle_55 : decode cX4_settle 55 = .ok (.getfield 56, 3) := by decide +kernel
theorem dX4_settle_58 : decode cX4_settle 58 = .ok (.iconst 2, 1) := by decide +kernel
theorem dX4_settle_59 : decode cX4_settle 59 = .ok (.iload_n 1, 1) := by decide +kernel
theorem dX4_settle_60 : decode cX4_settle 60 = .ok (.imul, 1) := by decide +kernel
theorem dX4_settle_61 : decode cX4_settle 61 = .ok (.iconst 1, 1) := by decide +kernel
theorem dX4_settle_62 : decode cX4_settle 62 = .ok (.iadd, 1) := by decide +kernel
theorem dX4_settle_63 : decode cX4_settle 63 = .ok (.iaload, 1) := by decide +kernel
theorem dX4_settle_64 : decode cX4_settle 64 = .ok (.ineg, 1) := by decide +kernel
theorem dX4_settle_65 : decode cX4_settle 65 = .ok (.i2l, 1) := by decide +kernel
theorem dX4_settle_66 : decode cX4_settle 66 = .ok (.invokestatic 76, 3) := by decide +kernel
theorem dX4_settle_69 : decode cX4_settle 69 = .ok (.iastore, 1) := by decide +kernel
theorem dX4_settle_70 : decode cX4_settle 70 = .ok (.iinc 1 1, 3) := by decide +kernel
theorem dX4_settle_73 : decode cX4_settle 73 = .ok (.goto (-57), 3) := by decide +kernel
theorem dX4_settle_76 : decode cX4_settle 76 = .ok (.aload_n 0, 1) := by decide +kernel
theorem dX4_settle_77 : decode cX4_settle 77 = .ok (.getfield 40, 3) := by decide +kernel
theorem dX4_settle_80 : decode cX4_settle 80 = .ok (.aload_n 0, 1) := by decide +kernel
theorem dX4_settle_81 : decode cX4_settle 81 = .ok (.getfield 40, 3) := by decide +kernel
theorem dX4_settle_84 : decode cX4_settle 84 = .ok (.sipush 880, 3) := by decide +kernel
theorem dX4_settle_87 : decode cX4_settle 87 = .ok (.invokestatic 72, 3) := by decide +kernel
theorem dX4_settle_90 : decode cX4_settle 90 = .ok (.iaload, 1) := by decide +kernel
theorem dX4_settle_91 : decode cX4_settle 91 = .ok (.invokestatic 90, 3) := by decide +kernel
theorem dX4_settle_94 : decode cX4_settle 94 = .ok (.istore_n 1, 1) := by decide +kernel
theorem dX4_settle_95 : decode cX4_settle 95 = .ok (.iconst 0, 1) := by decide +kernel
theorem dX4_settle_96 : decode cX4_settle 96 = .ok (.istore_n 2, 1) := by decide +kernel
theorem dX4_settle_97 : decode cX4_settle 97 = .ok (.iload_n 2, 1) := by decide +kernel
theorem dX4_settle_98 : decode cX4_settle 98 = .ok (.sipush 880, 3) := by decide +kernel
theorem dX4_settle_101 : decode cX4_settle 101 = .ok (.if_icmp .ge 51, 3) := by decide +kernel
theorem dX4_settle_104 : decode cX4_settle 104 = .ok (.aload_n 0, 1) := by decide +kernel
theorem dX4_settle_105 : decode cX4_settle 105 = .ok (.getfield 37, 3) := by decide +kernel
theorem dX4_settle_108 : decode cX4_settle 108 = .ok (.iload_n 2, 1) := by decide +kernel
theorem dX4_settle_109 : decode cX4_settle 109 = .ok (.aload_n 0, 1) := by decide +kernel
theorem dX4_settle_110 : decode cX4_settle 110 = .ok (.getfield 37, 3) := by decide +kernel
theorem dX4_settle_113 : decode cX4_settle 113 = .ok (.iload_n 2, 1) := by decide +kernel
theorem dX4_settle_114 : decode cX4_settle 114 = .ok (.iaload, 1) := by decide +kernel
theorem dX4_settle_115 : decode cX4_settle 115 = .ok (.i2l, 1) := by decide +kernel
theorem dX4_settle_116 : decode cX4_settle 116 = .ok (.iload_n 1, 1) := by decide +kernel
theorem dX4_settle_117 : decode cX4_settle 117 = .ok (.i2l, 1) := by decide +kernel
theorem dX4_settle_118 : decode cX4_settle 118 = .ok (.lmul, 1) := by decide +kernel
theorem dX4_settle_119 : decode cX4_settle 119 = .ok (.ldc2_w 66, 3) := by decide +kernel
theorem dX4_settle_122 : decode cX4_settle 122 = .ok (.lrem, 1) := by decide +kernel
theorem dX4_settle_123 : decode cX4_settle 123 = .ok (.l2i, 1) := by decide +kernel
theorem dX4_settle_124 : decode cX4_settle 124 = .ok (.iastore, 1) := by decide +kernel
theorem dX4_settle_125 : decode cX4_settle 125 = .ok (.aload_n 0, 1) := by decide +kernel
theorem dX4_settle_126 : decode cX4_settle 126 = .ok (.getfield 40, 3) := by decide +kernel
theorem dX4_settle_129 : decode cX4_settle 129 = .ok (.iload_n 2, 1) := by decide +kernel
theorem dX4_settle_130 : decode cX4_settle 130 = .ok (.aload_n 0, 1) := by decide +kernel
theorem dX4_settle_131 : decode cX4_settle 131 = .ok (.getfield 40, 3) := by decide +kernel
theorem dX4_settle_134 : decode cX4_settle 134 = .ok (.iload_n 2, 1) := by decide +kernel
theorem dX4_settle_135 : decode cX4_settle 135 = .ok (.iaload, 1) := by decide +kernel
theorem dX4_settle_136 : decode cX4_settle 136 = .ok (.i2l, 1) := by decide +kernel
theorem dX4_settle_137 : decode cX4_settle 137 = .ok (.iload_n 1, 1) := by decide +kernel
theorem dX4_settle_138 : decode cX4_settle 138 = .ok (.i2l, 1) := by decide +kernel
theorem dX4_settle_139 : decode cX4_settle 139 = .ok (.lmul, 1) := by decide +kernel
theorem dX4_settle_140 : decode cX4_settle 140 = .ok (.ldc2_w 66, 3) := by decide +kernel
theorem dX4_settle_143 : decode cX4_settle 143 = .ok (.lrem, 1) := by decide +kernel
theorem dX4_settle_144 : decode cX4_settle 144 = .ok (.l2i, 1) := by decide +kernel
theorem dX4_settle_145 : decode cX4_settle 145 = .ok (.iastore, 1) := by decide +kernel
theorem dX4_settle_146 : decode cX4_settle 146 = .ok (.iinc 2 1, 3) := by decide +kernel
theorem dX4_settle_149 : decode cX4_settle 149 = .ok (.goto (-52), 3) := by decide +kernel
theorem dX4_settle_152 : decode cX4_settle 152 = .ok (.return_, 1) := by decide +kernel
theorem dX4_keep_0 : decode cX4_keep 0 = .ok (.iconst 0, 1) := by decide +kernel
theorem dX4_keep_1 : decode cX4_keep 1 = .ok (.istore_n 1, 1) := by decide +kernel
theorem dX4_keep_2 : decode cX4_keep 2 = .ok (.iload_n 1, 1) := by decide +kernel
theorem dX4_keep_3 : decode cX4_keep 3 = .ok (.bipush 49, 2) := by decide +kernel
theorem dX4_keep_5 : decode cX4_keep 5 = .ok (.if_icmp .ge 62, 3) := by decide +kernel
theorem dX4_keep_8 : decode cX4_keep 8 = .ok (.bipush 40, 2) := by decide +kernel
theorem dX4_keep_10 : decode cX4_keep 10 = .ok (.iload_n 1, 1) := by decide +kernel
theorem dX4_keep_11 : decode cX4_keep 11 = .ok (.bipush 7, 2) := by decide +kernel
theorem dX4_keep_13 : decode cX4_keep 13 = .ok (.idiv, 1) := by decide +kernel
theorem dX4_keep_14 : decode cX4_keep 14 = .ok (.imul, 1) := by decide +kernel
theorem dX4_keep_15 : decode cX4_keep 15 = .ok (.iload_n 1, 1) := by decide +kernel
theorem dX4_keep_16 : decode cX4_keep 16 = .ok (.bipush 7, 2) := by decide +kernel
theorem dX4_keep_18 : decode cX4_keep 18 = .ok (.irem, 1) := by decide +kernel
theorem dX4_keep_19 : decode cX4_keep 19 = .ok (.iadd, 1) := by decide +kernel
theorem dX4_keep_20 : decode cX4_keep 20 = .ok (.istore_n 2, 1) := by decide +kernel
theorem dX4_keep_21 : decode cX4_keep 21 = .ok (.aload_n 0, 1) := by decide +kernel
theorem dX4_keep_22 : decode cX4_keep 22 = .ok (.getfield 7, 3) := by decide +kernel
theorem dX4_keep_25 : decode cX4_keep 25 = .ok (.bipush 49, 2) := by decide +kernel
theorem dX4_keep_27 : decode cX4_keep 27 = .ok (.aload_n 0, 1) := by decide +kernel
theorem dX4_keep_28 : decode cX4_keep 28 = .ok (.getfield 94, 3) := by decide +kernel
theorem dX4_keep_31 : decode cX4_keep 31 = .ok (.imul, 1) := by decide +kernel
theorem dX4_keep_32 : decode cX4_keep 32 = .ok (.iload_n 1, 1) := by decide +kernel
theorem dX4_keep_33 : decode cX4_keep 33 = .ok (.iadd, 1) := by decide +kernel
theorem dX4_keep_34 : decode cX4_keep 34 = .ok (.aload_n 0, 1) := by decide +kernel
theorem dX4_keep_35 : decode cX4_keep 35 = .ok (.getfield 37, 3) := by decide +kernel
theorem dX4_keep_38 : decode cX4_keep 38 = .ok (.iload_n 2, 1) := by decide +kernel
theorem dX4_keep_39 : decode cX4_keep 39 = .ok (.iaload, 1) := by decide +kernel
theorem dX4_keep_40 : decode cX4_keep 40 = .ok (.iastore, 1) := by decide +kernel
theorem dX4_keep_41 : decode cX4_keep 41 = .ok (.aload_n 0, 1) := by decide +kernel
theorem dX4_keep_42 : decode cX4_keep 42 = .ok (.getfield 13, 3) := by decide +kernel
theorem dX4_keep_45 : decode cX4_keep 45 = .ok (.bipush 49, 2) := by decide +kernel
theorem dX4_keep_47 : decode cX4_keep 47 = .ok (.aload_n 0, 1) := by decide +kernel
theorem dX4_keep_48 : decode cX4_keep 48 = .ok (.getfield 94, 3) := by decide +kernel
theorem dX4_keep_51 : decode cX4_keep 51 = .ok (.imul, 1) := by decide +kernel
theorem dX4_keep_52 : decode cX4_keep 52 = .ok (.iload_n 1, 1) := by decide +kernel
theorem dX4_keep_53 : decode cX4_keep 53 = .ok (.iadd, 1) := by decide +kernel
theorem dX4_keep_54 : decode cX4_keep 54 = .ok (.aload_n 0, 1) := by decide +kernel
theorem dX4_keep_55 : decode cX4_keep 55 = .ok (.getfield 40, 3) := by decide +kernel
theorem dX4_keep_58 : decode cX4_keep 58 = .ok (.iload_n 2, 1) := by decide +kernel
theorem dX4_keep_59 : decode cX4_keep 59 = .ok (.iaload, 1) := by decide +kernel
theorem dX4_keep_60 : decode cX4_keep 60 = .ok (.iastore, 1) := by decide +kernel
theorem dX4_keep_61 : decode cX4_keep 61 = .ok (.iinc 1 1, 3) := by decide +kernel
theorem dX4_keep_64 : decode cX4_keep 64 = .ok (.goto (-62), 3) := by decide +kernel
theorem dX4_keep_67 : decode cX4_keep 67 = .ok (.aload_n 0, 1) := by decide +kernel
theorem dX4_keep_68 : decode cX4_keep 68 = .ok (.dup, 1) := by decide +kernel
theorem dX4_keep_69 : decode cX4_keep 69 = .ok (.getfield 94, 3) := by decide +kernel
theorem dX4_keep_72 : decode cX4_keep 72 = .ok (.iconst 1, 1) := by decide +kernel
theorem dX4_keep_73 : decode cX4_keep 73 = .ok (.iadd, 1) := by decide +kernel
theorem dX4_keep_74 : decode cX4_keep 74 = .ok (.putfield 94, 3) := by decide +kernel
theorem dX4_keep_77 : decode cX4_keep 77 = .ok (.aload_n 0, 1) := by decide +kernel
theorem dX4_keep_78 : decode cX4_keep 78 = .ok (.getfield 94, 3) := by decide +kernel
theorem dX4_keep_81 : decode cX4_keep 81 = .ok (.iconst 1, 1) := by decide +kernel
theorem dX4_keep_82 : decode cX4_keep 82 = .ok (.isub, 1) := by decide +kernel
theorem dX4_keep_83 : decode cX4_keep 83 = .ok (.ireturn, 1) := by decide +kernel
theorem dX4_made_0 : decode cX4_made 0 = .ok (.aload_n 0, 1) := by decide +kernel
theorem dX4_made_1 : decode cX4_made 1 = .ok (.invokevirtual 97, 3) := by decide +kernel
theorem dX4_made_4 : decode cX4_made 4 = .ok (.ifCond .ne 9, 3) := by decide +kernel
theorem dX4_made_7 : decode cX4_made 7 = .ok (.aload_n 0, 1) := by decide +kernel
theorem dX4_made_8 : decode cX4_made 8 = .ok (.iload_n 1, 1) := by decide +kernel
theorem dX4_made_9 : decode cX4_made 9 = .ok (.invokevirtual 101, 3) := by decide +kernel
theorem dX4_made_12 : decode cX4_made 12 = .ok (.ireturn, 1) := by decide +kernel
theorem dX4_made_13 : decode cX4_made 13 = .ok (.aload_n 0, 1) := by decide +kernel
theorem dX4_made_14 : decode cX4_made 14 = .ok (.iconst 0, 1) := by decide +kernel
theorem dX4_made_15 : decode cX4_made 15 = .ok (.putfield 62, 3) := by decide +kernel
theorem dX4_made_18 : decode cX4_made 18 = .ok (.aload_n 0, 1) := by decide +kernel
theorem dX4_made_19 : decode cX4_made 19 = .ok (.invokevirtual 104, 3) := by decide +kernel
theorem dX4_made_22 : decode cX4_made 22 = .ok (.ireturn, 1) := by decide +kernel
theorem dX4_isElement_0 : decode cX4_isElement 0 = .ok (.iload_n 1, 1) := by decide +kernel
theorem dX4_isElement_1 : decode cX4_isElement 1 = .ok (.ifCond .lt 15, 3) := by decide +kernel
theorem dX4_isElement_4 : decode cX4_isElement 4 = .ok (.iload_n 1, 1) := by decide +kernel
theorem dX4_isElement_5 : decode cX4_isElement 5 = .ok (.aload_n 0, 1) := by decide +kernel
theorem dX4_isElement_6 : decode cX4_isElement 6 = .ok (.getfield 94, 3) := by decide +kernel
theorem dX4_isElement_9 : decode cX4_isElement 9 = .ok (.if_icmp .ge 7, 3) := by decide +kernel
theorem dX4_isElement_12 : decode cX4_isElement 12 = .ok (.iconst 1, 1) := by decide +kernel
theorem dX4_isElement_13 : decode cX4_isElement 13 = .ok (.goto 4, 3) := by decide +kernel
theorem dX4_isElement_16 : decode cX4_isElement 16 = .ok (.iconst 0, 1) := by decide +kernel
theorem dX4_isElement_17 : decode cX4_isElement 17 = .ok (.ireturn, 1) := by decide +kernel
theorem dX4_are_0 : decode cX4_are 0 = .ok (.aload_n 0, 1) := by decide +kernel
theorem dX4_are_1 : decode cX4_are 1 = .ok (.aload_n 0, 1) := by decide +kernel
theorem dX4_are_2 : decode cX4_are 2 = .ok (.iload_n 1, 1) := by decide +kernel
theorem dX4_are_3 : decode cX4_are 3 = .ok (.invokevirtual 108, 3) := by decide +kernel
theorem dX4_are_6 : decode cX4_are 6 = .ok (.ifCond .eq 11, 3) := by decide +kernel
theorem dX4_are_9 : decode cX4_are 9 = .ok (.aload_n 0, 1) := by decide +kernel
theorem dX4_are_10 : decode cX4_are 10 = .ok (.iload_n 2, 1) := by decide +kernel
theorem dX4_are_11 : decode cX4_are 11 = .ok (.invokevirtual 108, 3) := by decide +kernel
theorem dX4_are_14 : decode cX4_are 14 = .ok (.ifCond .ne 7, 3) := by decide +kernel
theorem dX4_are_17 : decode cX4_are 17 = .ok (.iconst 1, 1) := by decide +kernel
theorem dX4_are_18 : decode cX4_are 18 = .ok (.goto 17, 3) := by decide +kernel
theorem dX4_are_21 : decode cX4_are 21 = .ok (.aload_n 0, 1) := by decide +kernel
theorem dX4_are_22 : decode cX4_are 22 = .ok (.getfield 94, 3) := by decide +kernel
theorem dX4_are_25 : decode cX4_are 25 = .ok (.bipush 120, 2) := by decide +kernel
theorem dX4_are_27 : decode cX4_are 27 = .ok (.if_icmp .ne 7, 3) := by decide +kernel
theorem dX4_are_30 : decode cX4_are 30 = .ok (.iconst 2, 1) := by decide +kernel
theorem dX4_are_31 : decode cX4_are 31 = .ok (.goto 4, 3) := by decide +kernel
theorem dX4_are_34 : decode cX4_are 34 = .ok (.iconst 0, 1) := by decide +kernel
theorem dX4_are_35 : decode cX4_are 35 = .ok (.putfield 62, 3) := by decide +kernel
theorem dX4_are_38 : decode cX4_are 38 = .ok (.aload_n 0, 1) := by decide +kernel
theorem dX4_are_39 : decode cX4_are 39 = .ok (.getfield 62, 3) := by decide +kernel
theorem dX4_are_42 : decode cX4_are 42 = .ok (.ifCond .ne 7, 3) := by decide +kernel
theorem dX4_are_45 : decode cX4_are 45 = .ok (.iconst 1, 1) := by decide +kernel
theorem dX4_are_46 : decode cX4_are 46 = .ok (.goto 4, 3) := by decide +kernel
theorem dX4_are_49 : decode cX4_are 49 = .ok (.iconst 0, 1) := by decide +kernel
theorem dX4_are_50 : decode cX4_are 50 = .ok (.ireturn, 1) := by decide +kernel
theorem dX4_one_0 : decode cX4_one 0 = .ok (.aload_n 1, 1) := by decide +kernel
theorem dX4_one_1 : decode cX4_one 1 = .ok (.invokestatic 68, 3) := by decide +kernel
theorem dX4_one_4 : decode cX4_one 4 = .ok (.aload_n 1, 1) := by decide +kernel
theorem dX4_one_5 : decode cX4_one 5 = .ok (.iconst 0, 1) := by decide +kernel
theorem dX4_one_6 : decode cX4_one 6 = .ok (.iconst 1, 1) := by decide +kernel
theorem dX4_one_7 : decode cX4_one 7 = .ok (.iastore, 1) := by decide +kernel
theorem dX4_one_8 : decode cX4_one 8 = .ok (.return_, 1) := by decide +kernel
theorem dX4_number_0 : decode cX4_number 0 = .ok (.aload_n 0, 1) := by decide +kernel
theorem dX4_number_1 : decode cX4_number 1 = .ok (.aload_n 0, 1) := by decide +kernel
theorem dX4_number_2 : decode cX4_number 2 = .ok (.getfield 94, 3) := by decide +kernel
theorem dX4_number_5 : decode cX4_number 5 = .ok (.bipush 120, 2) := by decide +kernel
theorem dX4_number_7 : decode cX4_number 7 = .ok (.if_icmp .ne 7, 3) := by decide +kernel
theorem dX4_number_10 : decode cX4_number 10 = .ok (.iconst 1, 1) := by decide +kernel
theorem dX4_number_11 : decode cX4_number 11 = .ok (.goto 15, 3) := by decide +kernel
theorem dX4_number_14 : decode cX4_number 14 = .ok (.lload_n 3, 1) := by decide +kernel
theorem dX4_number_15 : decode cX4_number 15 = .ok (.invokestatic 76, 3) := by decide +kernel
theorem dX4_number_18 : decode cX4_number 18 = .ok (.ifCond .ne 7, 3) := by decide +kernel
theorem dX4_number_21 : decode cX4_number 21 = .ok (.iconst 2, 1) := by decide +kernel
theorem dX4_number_22 : decode cX4_number 22 = .ok (.goto 4, 3) := by decide +kernel
theorem dX4_number_25 : decode cX4_number 25 = .ok (.iconst 0, 1) := by decide +kernel
theorem dX4_number_26 : decode cX4_number 26 = .ok (.putfield 62, 3) := by decide +kernel
theorem dX4_number_29 : decode cX4_number 29 = .ok (.aload_n 0, 1) := by decide +kernel
theorem dX4_number_30 : decode cX4_number 30 = .ok (.getfield 62, 3) := by decide +kernel
theorem dX4_number_33 : decode cX4_number 33 = .ok (.ifCond .le 5, 3) := by decide +kernel
theorem dX4_number_36 : decode cX4_number 36 = .ok (.iconst 0, 1) := by decide +kernel
theorem dX4_number_37 : decode cX4_number 37 = .ok (.ireturn, 1) := by decide +kernel
theorem dX4_number_38 : decode cX4_number 38 = .ok (.aload_n 0, 1) := by decide +kernel
theorem dX4_number_39 : decode cX4_number 39 = .ok (.getfield 37, 3) := by decide +kernel
theorem dX4_number_42 : decode cX4_number 42 = .ok (.invokestatic 68, 3) := by decide +kernel
theorem dX4_number_45 : decode cX4_number 45 = .ok (.aload_n 0, 1) := by decide +kernel
theorem dX4_number_46 : decode cX4_number 46 = .ok (.aload_n 0, 1) := by decide +kernel
theorem dX4_number_47 : decode cX4_number 47 = .ok (.getfield 40, 3) := by decide +kernel
theorem dX4_number_50 : decode cX4_number 50 = .ok (.invokevirtual 112, 3) := by decide +kernel
theorem dX4_number_53 : decode cX4_number 53 = .ok (.aload_n 0, 1) := by decide +kernel
theorem dX4_number_54 : decode cX4_number 54 = .ok (.getfield 37, 3) := by decide +kernel
theorem dX4_number_57 : decode cX4_number 57 = .ok (.iconst 0, 1) := by decide +kernel
theorem dX4_number_58 : decode cX4_number 58 = .ok (.lload_n 1, 1) := by decide +kernel
theorem dX4_number_59 : decode cX4_number 59 = .ok (.invokestatic 76, 3) := by decide +kernel
theorem dX4_number_62 : decode cX4_number 62 = .ok (.i2l, 1) := by decide +kernel
theorem dX4_number_63 : decode cX4_number 63 = .ok (.lload_n 3, 1) := by decide +kernel
theorem dX4_number_64 : decode cX4_number 64 = .ok (.invokestatic 76, 3) := by decide +kernel
theorem dX4_number_67 : decode cX4_number 67 = .ok (.invokestatic 90, 3) := by decide +kernel
theorem dX4_number_70 : decode cX4_number 70 = .ok (.i2l, 1) := by decide +kernel
theorem dX4_number_71 : decode cX4_number 71 = .ok (.lmul, 1) := by decide +kernel
theorem dX4_number_72 : decode cX4_number 72 = .ok (.ldc2_w 66, 3) := by decide +kernel
theorem dX4_number_75 : decode cX4_number 75 = .ok (.lrem, 1) := by decide +kernel
theorem dX4_number_76 : decode cX4_number 76 = .ok (.l2i, 1) := by decide +kernel
theorem dX4_number_77 : decode cX4_number 77 = .ok (.iastore, 1) := by decide +kernel
theorem dX4_number_78 : decode cX4_number 78 = .ok (.aload_n 0, 1) := by decide +kernel
theorem dX4_number_79 : decode cX4_number 79 = .ok (.invokevirtual 104, 3) := by decide +kernel
theorem dX4_number_82 : decode cX4_number 82 = .ok (.ireturn, 1) := by decide +kernel
theorem dX4_base_0 : decode cX4_base 0 = .ok (.aload_n 0, 1) := by decide +kernel
theorem dX4_base_1 : decode cX4_base 1 = .ok (.aload_n 0, 1) := by decide +kernel
theorem dX4_base_2 : decode cX4_base 2 = .ok (.getfield 94, 3) := by decide +kernel
theorem dX4_base_5 : decode cX4_base 5 = .ok (.bipush 120, 2) := by decide +kernel
theorem dX4_base_7 : decode cX4_base 7 = .ok (.if_icmp .ne 7, 3) := by decide +kernel
theorem dX4_base_10 : decode cX4_base 10 = .ok (.iconst 1, 1) := by decide +kernel
theorem dX4_base_11 : decode cX4_base 11 = .ok (.goto 4, 3) := by decide +kernel
theorem dX4_base_14 : decode cX4_base 14 = .ok (.iconst 0, 1) := by decide +kernel
theorem dX4_base_15 : decode cX4_base 15 = .ok (.putfield 62, 3) := by decide +kernel
theorem dX4_base_18 : decode cX4_base 18 = .ok (.aload_n 0, 1) := by decide +kernel
theorem dX4_base_19 : decode cX4_base 19 = .ok (.getfield 62, 3) := by decide +kernel
theorem dX4_base_22 : decode cX4_base 22 = .ok (.ifCond .le 5, 3) := by decide +kernel
theorem dX4_base_25 : decode cX4_base 25 = .ok (.iconst 0, 1) := by decide +kernel
theorem dX4_base_26 : decode cX4_base 26 = .ok (.ireturn, 1) := by decide +kernel
theorem dX4_base_27 : decode cX4_base 27 = .ok (.aload_n 0, 1) := by decide +kernel
theorem dX4_base_28 : decode cX4_base 28 = .ok (.getfield 37, 3) := by decide +kernel
theorem dX4_base_31 : decode cX4_base 31 = .ok (.invokestatic 68, 3) := by decide +kernel
theorem dX4_base_34 : decode cX4_base 34 = .ok (.aload_n 0, 1) := by decide +kernel
theorem dX4_base_35 : decode cX4_base 35 = .ok (.aload_n 0, 1) := by decide +kernel
theorem dX4_base_36 : decode cX4_base 36 = .ok (.getfield 40, 3) := by decide +kernel
theorem dX4_base_39 : decode cX4_base 39 = .ok (.invokevirtual 112, 3) := by decide +kernel
theorem dX4_base_42 : decode cX4_base 42 = .ok (.aload_n 0, 1) := by decide +kernel
theorem dX4_base_43 : decode cX4_base 43 = .ok (.getfield 37, 3) := by decide +kernel
theorem dX4_base_46 : decode cX4_base 46 = .ok (.iconst 1, 1) := by decide +kernel
theorem dX4_base_47 : decode cX4_base 47 = .ok (.iconst 1, 1) := by decide +kernel
theorem dX4_base_48 : decode cX4_base 48 = .ok (.iastore, 1) := by decide +kernel
theorem dX4_base_49 : decode cX4_base 49 = .ok (.aload_n 0, 1) := by decide +kernel
theorem dX4_base_50 : decode cX4_base 50 = .ok (.invokevirtual 104, 3) := by decide +kernel
theorem dX4_base_53 : decode cX4_base 53 = .ok (.ireturn, 1) := by decide +kernel
theorem dX4_letterItself_0 : decode cX4_letterItself 0 = .ok (.aload_n 0, 1) := by decide +kernel
theorem dX4_letterItself_1 : decode cX4_letterItself 1 = .ok (.getfield 37, 3) := by decide +kernel
theorem dX4_letterItself_4 : decode cX4_letterItself 4 = .ok (.invokestatic 68, 3) := by decide +kernel
theorem dX4_letterItself_7 : decode cX4_letterItself 7 = .ok (.aload_n 0, 1) := by decide +kernel
theorem dX4_letterItself_8 : decode cX4_letterItself 8 = .ok (.aload_n 0, 1) := by decide +kernel
theorem dX4_letterItself_9 : decode cX4_letterItself 9 = .ok (.getfield 40, 3) := by decide +kernel
theorem dX4_letterItself_12 : decode cX4_letterItself 12 = .ok (.invokevirtual 112, 3) := by decide +kernel
theorem dX4_letterItself_15 : decode cX4_letterItself 15 = .ok (.aload_n 0, 1) := by decide +kernel
theorem dX4_letterItself_16 : decode cX4_letterItself 16 = .ok (.getfield 37, 3) := by decide +kernel
theorem dX4_letterItself_19 : decode cX4_letterItself 19 = .ok (.bipush 40, 2) := by decide +kernel
theorem dX4_letterItself_21 : decode cX4_letterItself 21 = .ok (.iconst 1, 1) := by decide +kernel
theorem dX4_letterItself_22 : decode cX4_letterItself 22 = .ok (.iastore, 1) := by decide +kernel
theorem dX4_letterItself_23 : decode cX4_letterItself 23 = .ok (.aload_n 0, 1) := by decide +kernel
theorem dX4_letterItself_24 : decode cX4_letterItself 24 = .ok (.invokevirtual 104, 3) := by decide +kernel
theorem dX4_letterItself_27 : decode cX4_letterItself 27 = .ok (.ireturn, 1) := by decide +kernel
theorem dX4_isLow_0 : decode cX4_isLow 0 = .ok (.bipush 7, 2) := by decide +kernel
theorem dX4_isLow_2 : decode cX4_isLow 2 = .ok (.istore_n 2, 1) := by decide +kernel
theorem dX4_isLow_3 : decode cX4_isLow 3 = .ok (.iload_n 2, 1) := by decide +kernel
theorem dX4_isLow_4 : decode cX4_isLow 4 = .ok (.bipush 49, 2) := by decide +kernel
theorem dX4_isLow_6 : decode cX4_isLow 6 = .ok (.if_icmp .ge 39, 3) := by decide +kernel
theorem dX4_isLow_9 : decode cX4_isLow 9 = .ok (.aload_n 0, 1) := by decide +kernel
theorem dX4_isLow_10 : decode cX4_isLow 10 = .ok (.getfield 7, 3) := by decide +kernel
theorem dX4_isLow_13 : decode cX4_isLow 13 = .ok (.bipush 49, 2) := by decide +kernel
theorem dX4_isLow_15 : decode cX4_isLow 15 = .ok (.iload_n 1, 1) := by decide +kernel
theorem dX4_isLow_16 : decode cX4_isLow 16 = .ok (.imul, 1) := by decide +kernel
theorem dX4_isLow_17 : decode cX4_isLow 17 = .ok (.iload_n 2, 1) := by decide +kernel
theorem dX4_isLow_18 : decode cX4_isLow 18 = .ok (.iadd, 1) := by decide +kernel
theorem dX4_isLow_19 : decode cX4_isLow 19 = .ok (.iaload, 1) := by decide +kernel
theorem dX4_isLow_20 : decode cX4_isLow 20 = .ok (.ifCond .ne 17, 3) := by decide +kernel
theorem dX4_isLow_23 : decode cX4_isLow 23 = .ok (.aload_n 0, 1) := by decide +kernel
theorem dX4_isLow_24 : decode cX4_isLow 24 = .ok (.getfield 13, 3) := by decide +kernel
theorem dX4_isLow_27 : decode cX4_isLow 27 = .ok (.bipush 49, 2) := by decide +kernel
theorem dX4_isLow_29 : decode cX4_isLow 29 = .ok (.iload_n 1, 1) := by decide +kernel
theorem dX4_isLow_30 : decode cX4_isLow 30 = .ok (.imul, 1) := by decide +kernel
theorem dX4_isLow_31 : decode cX4_isLow 31 = .ok (.iload_n 2, 1) := by decide +kernel
theorem dX4_isLow_32 : decode cX4_isLow 32 = .ok (.iadd, 1) := by decide +kernel
theorem dX4_isLow_33 : decode cX4_isLow 33 = .ok (.iaload, 1) := by decide +kernel
theorem dX4_isLow_34 : decode cX4_isLow 34 = .ok (.ifCond .eq 5, 3) := by decide +kernel
theorem dX4_isLow_37 : decode cX4_isLow 37 = .ok (.iconst 0, 1) := by decide +kernel
theorem dX4_isLow_38 : decode cX4_isLow 38 = .ok (.ireturn, 1) := by decide +kernel
theorem dX4_isLow_39 : decode cX4_isLow 39 = .ok (.iinc 2 1, 3) := by decide +kernel
theorem dX4_isLow_42 : decode cX4_isLow 42 = .ok (.goto (-39), 3) := by decide +kernel
theorem dX4_isLow_45 : decode cX4_isLow 45 = .ok (.iconst 1, 1) := by decide +kernel
theorem dX4_isLow_46 : decode cX4_isLow 46 = .ok (.ireturn, 1) := by decide +kernel
theorem dX4_letter_0 : decode cX4_letter 0 = .ok (.aload_n 0, 1) := by decide +kernel
theorem dX4_letter_1 : decode cX4_letter 1 = .ok (.iload_n 2, 1) := by decide +kernel
theorem dX4_letter_2 : decode cX4_letter 2 = .ok (.iload_n 2, 1) := by decide +kernel
theorem dX4_letter_3 : decode cX4_letter 3 = .ok (.invokevirtual 115, 3) := by decide +kernel
theorem dX4_letter_6 : decode cX4_letter 6 = .ok (.ifCond .ne 5, 3) := by decide +kernel
theorem dX4_letter_9 : decode cX4_letter 9 = .ok (.iconst 0, 1) := by decide +kernel
theorem dX4_letter_10 : decode cX4_letter 10 = .ok (.ireturn, 1) := by decide +kernel
theorem dX4_letter_11 : decode cX4_letter 11 = .ok (.aload_n 0, 1) := by decide +kernel
theorem dX4_letter_12 : decode cX4_letter 12 = .ok (.getfield 119, 3) := by decide +kernel
theorem dX4_letter_15 : decode cX4_letter 15 = .ok (.ifCond .gt 21, 3) := by decide +kernel
theorem dX4_letter_18 : decode cX4_letter 18 = .ok (.iload_n 1, 1) := by decide +kernel
theorem dX4_letter_19 : decode cX4_letter 19 = .ok (.iconst 1, 1) := by decide +kernel
theorem dX4_letter_20 : decode cX4_letter 20 = .ok (.if_icmp .lt 16, 3) := by decide +kernel
theorem dX4_letter_23 : decode cX4_letter 23 = .ok (.iload_n 1, 1) := by decide +kernel
theorem dX4_letter_24 : decode cX4_letter 24 = .ok (.iconst 2, 1) := by decide +kernel
theorem dX4_letter_25 : decode cX4_letter 25 = .ok (.if_icmp .gt 11, 3) := by decide +kernel
theorem dX4_letter_28 : decode cX4_letter 28 = .ok (.aload_n 0, 1) := by decide +kernel
theorem dX4_letter_29 : decode cX4_letter 29 = .ok (.iload_n 2, 1) := by decide +kernel
theorem dX4_letter_30 : decode cX4_letter 30 = .ok (.invokevirtual 122, 3) := by decide +kernel
theorem dX4_letter_33 : decode cX4_letter 33 = .ok (.ifCond .ne 9, 3) := by decide +kernel
theorem dX4_letter_36 : decode cX4_letter 36 = .ok (.aload_n 0, 1) := by decide +kernel
theorem dX4_letter_37 : decode cX4_letter 37 = .ok (.iconst 3, 1) := by decide +kernel
theorem dX4_letter_38 : decode cX4_letter 38 = .ok (.invokevirtual 101, 3) := by decide +kernel
theorem dX4_letter_41 : decode cX4_letter 41 = .ok (.ireturn, 1) := by decide +kernel
theorem dX4_letter_42 : decode cX4_letter 42 = .ok (.aload_n 0, 1) := by decide +kernel
theorem dX4_letter_43 : decode cX4_letter 43 = .ok (.aload_n 0, 1) := by decide +kernel
theorem dX4_letter_44 : decode cX4_letter 44 = .ok (.getfield 22, 3) := by decide +kernel
theorem dX4_letter_47 : decode cX4_letter 47 = .ok (.aload_n 0, 1) := by decide +kernel
theorem dX4_letter_48 : decode cX4_letter 48 = .ok (.getfield 7, 3) := by decide +kernel
theorem dX4_letter_51 : decode cX4_letter 51 = .ok (.iload_n 2, 1) := by decide +kernel
theorem dX4_letter_52 : decode cX4_letter 52 = .ok (.invokevirtual 125, 3) := by decide +kernel
theorem dX4_letter_55 : decode cX4_letter 55 = .ok (.aload_n 0, 1) := by decide +kernel
theorem dX4_letter_56 : decode cX4_letter 56 = .ok (.aload_n 0, 1) := by decide +kernel
theorem dX4_letter_57 : decode cX4_letter 57 = .ok (.getfield 25, 3) := by decide +kernel
theorem dX4_letter_60 : decode cX4_letter 60 = .ok (.aload_n 0, 1) := by decide +kernel
theorem dX4_letter_61 : decode cX4_letter 61 = .ok (.getfield 13, 3) := by decide +kernel
theorem dX4_letter_64 : decode cX4_letter 64 = .ok (.iload_n 2, 1) := by decide +kernel
theorem dX4_letter_65 : decode cX4_letter 65 = .ok (.invokevirtual 125, 3) := by decide +kernel
theorem dX4_letter_68 : decode cX4_letter 68 = .ok (.aload_n 0, 1) := by decide +kernel
theorem dX4_letter_69 : decode cX4_letter 69 = .ok (.getfield 28, 3) := by decide +kernel
theorem dX4_letter_72 : decode cX4_letter 72 = .ok (.aload_n 0, 1) := by decide +kernel
theorem dX4_letter_73 : decode cX4_letter 73 = .ok (.getfield 22, 3) := by decide +kernel
theorem dX4_letter_76 : decode cX4_letter 76 = .ok (.iconst 1, 1) := by decide +kernel
theorem dX4_letter_77 : decode cX4_letter 77 = .ok (.invokestatic 129, 3) := by decide +kernel
theorem dX4_letter_80 : decode cX4_letter 80 = .ok (.aload_n 0, 1) := by decide +kernel
theorem dX4_letter_81 : decode cX4_letter 81 = .ok (.aload_n 0, 1) := by decide +kernel
theorem dX4_letter_82 : decode cX4_letter 82 = .ok (.getfield 31, 3) := by decide +kernel
theorem dX4_letter_85 : decode cX4_letter 85 = .ok (.aload_n 0, 1) := by decide +kernel
theorem dX4_letter_86 : decode cX4_letter 86 = .ok (.getfield 28, 3) := by decide +kernel
theorem dX4_letter_89 : decode cX4_letter 89 = .ok (.aload_n 0, 1) := by decide +kernel
theorem dX4_letter_90 : decode cX4_letter 90 = .ok (.getfield 25, 3) := by decide +kernel
theorem dX4_letter_93 : decode cX4_letter 93 = .ok (.invokevirtual 132, 3) := by decide +kernel
theorem dX4_letter_96 : decode cX4_letter 96 = .ok (.aload_n 0, 1) := by decide +kernel
theorem dX4_letter_97 : decode cX4_letter 97 = .ok (.getfield 28, 3) := by decide +kernel
theorem dX4_letter_100 : decode cX4_letter 100 = .ok (.aload_n 0, 1) := by decide +kernel
theorem dX4_letter_101 : decode cX4_letter 101 = .ok (.getfield 25, 3) := by decide +kernel
theorem dX4_letter_104 : decode cX4_letter 104 = .ok (.iconst 1, 1) := by decide +kernel
theorem dX4_letter_105 : decode cX4_letter 105 = .ok (.invokestatic 129, 3) := by decide +kernel
theorem dX4_letter_108 : decode cX4_letter 108 = .ok (.aload_n 0, 1) := by decide +kernel
theorem dX4_letter_109 : decode cX4_letter 109 = .ok (.aload_n 0, 1) := by decide +kernel
theorem dX4_letter_110 : decode cX4_letter 110 = .ok (.getfield 34, 3) := by decide +kernel
theorem dX4_letter_113 : decode cX4_letter 113 = .ok (.aload_n 0, 1) := by decide +kernel
theorem dX4_letter_114 : decode cX4_letter 114 = .ok (.getfield 28, 3) := by decide +kernel
theorem dX4_letter_117 : decode cX4_letter 117 = .ok (.aload_n 0, 1) := by decide +kernel
theorem dX4_letter_118 : decode cX4_letter 118 = .ok (.getfield 22, 3) := by decide +kernel
theorem dX4_letter_121 : decode cX4_letter 121 = .ok (.invokevirtual 132, 3) := by decide +kernel
theorem dX4_letter_124 : decode cX4_letter 124 = .ok (.aload_n 0, 1) := by decide +kernel
theorem dX4_letter_125 : decode cX4_letter 125 = .ok (.getfield 31, 3) := by decide +kernel
theorem dX4_letter_128 : decode cX4_letter 128 = .ok (.aload_n 0, 1) := by decide +kernel
theorem dX4_letter_129 : decode cX4_letter 129 = .ok (.getfield 34, 3) := by decide +kernel
theorem dX4_letter_132 : decode cX4_letter 132 = .ok (.iconst (-1), 1) := by decide +kernel
theorem dX4_letter_133 : decode cX4_letter 133 = .ok (.invokestatic 136, 3) := by decide +kernel
theorem dX4_letter_136 : decode cX4_letter 136 = .ok (.aload_n 0, 1) := by decide +kernel
theorem dX4_letter_137 : decode cX4_letter 137 = .ok (.getfield 31, 3) := by decide +kernel
theorem dX4_letter_140 : decode cX4_letter 140 = .ok (.invokestatic 139, 3) := by decide +kernel
theorem dX4_letter_143 : decode cX4_letter 143 = .ok (.ifCond .eq 9, 3) := by decide +kernel
theorem dX4_letter_146 : decode cX4_letter 146 = .ok (.aload_n 0, 1) := by decide +kernel
theorem dX4_letter_147 : decode cX4_letter 147 = .ok (.iconst 3, 1) := by decide +kernel
theorem dX4_letter_148 : decode cX4_letter 148 = .ok (.invokevirtual 101, 3) := by decide +kernel
theorem dX4_letter_151 : decode cX4_letter 151 = .ok (.ireturn, 1) := by decide +kernel
theorem dX4_letter_152 : decode cX4_letter 152 = .ok (.aload_n 0, 1) := by decide +kernel
theorem dX4_letter_153 : decode cX4_letter 153 = .ok (.iload_n 1, 1) := by decide +kernel
theorem dX4_letter_154 : decode cX4_letter 154 = .ok (.putfield 119, 3) := by decide +kernel
theorem dX4_letter_157 : decode cX4_letter 157 = .ok (.aload_n 0, 1) := by decide +kernel
theorem dX4_letter_158 : decode cX4_letter 158 = .ok (.getfield 16, 3) := by decide +kernel
theorem dX4_letter_161 : decode cX4_letter 161 = .ok (.invokestatic 68, 3) := by decide +kernel
theorem dX4_letter_164 : decode cX4_letter 164 = .ok (.iload_n 1, 1) := by decide +kernel
theorem dX4_letter_165 : decode cX4_letter 165 = .ok (.iconst 1, 1) := by decide +kernel
theorem dX4_letter_166 : decode cX4_letter 166 = .ok (.if_icmp .ne 33, 3) := by decide +kernel
theorem dX4_letter_169 : decode cX4_letter 169 = .ok (.aload_n 0, 1) := by decide +kernel
theorem dX4_letter_170 : decode cX4_letter 170 = .ok (.getfield 16, 3) := by decide +kernel
theorem dX4_letter_173 : decode cX4_letter 173 = .ok (.aload_n 0, 1) := by decide +kernel
theorem dX4_letter_174 : decode cX4_letter 174 = .ok (.getfield 31, 3) := by decide +kernel
theorem dX4_letter_177 : decode cX4_letter 177 = .ok (.invokestatic 143, 3) := by decide +kernel
theorem dX4_letter_180 : decode cX4_letter 180 = .ok (.aload_n 0, 1) := by decide +kernel
theorem dX4_letter_181 : decode cX4_letter 181 = .ok (.aload_n 0, 1) := by decide +kernel
theorem dX4_letter_182 : decode cX4_letter 182 = .ok (.getfield 19, 3) := by decide +kernel
theorem dX4_letter_185 : decode cX4_letter 185 = .ok (.aload_n 0, 1) := by decide +kernel
theorem dX4_letter_186 : decode cX4_letter 186 = .ok (.getfield 22, 3) := by decide +kernel
theorem dX4_letter_189 : decode cX4_letter 189 = .ok (.aload_n 0, 1) := by decide +kernel
theorem dX4_letter_190 : decode cX4_letter 190 = .ok (.getfield 25, 3) := by decide +kernel
theorem dX4_letter_193 : decode cX4_letter 193 = .ok (.invokevirtual 132, 3) := by decide +kernel
theorem dX4_letter_196 : decode cX4_letter 196 = .ok (.goto 48, 3) := by decide +kernel
theorem dX4_letter_199 : decode cX4_letter 199 = .ok (.iconst 0, 1) := by decide +kernel
theorem dX4_letter_200 : decode cX4_letter 200 = .ok (.istore_n 3, 1) := by decide +kernel
theorem dX4_letter_201 : decode cX4_letter 201 = .ok (.iload_n 3, 1) := by decide +kernel
theorem dX4_letter_202 : decode cX4_letter 202 = .ok (.bipush 40, 2) := by decide +kernel
theorem dX4_letter_204 : decode cX4_letter 204 = .ok (.if_icmp .ge 24, 3) := by decide +kernel
theorem dX4_letter_207 : decode cX4_letter 207 = .ok (.aload_n 0, 1) := by decide +kernel
theorem dX4_letter_208 : decode cX4_letter 208 = .ok (.getfield 16, 3) := by decide +kernel
theorem dX4_letter_211 : decode cX4_letter 211 = .ok (.bipush 40, 2) := by decide +kernel
theorem dX4_letter_213 : decode cX4_letter 213 = .ok (.iload_n 3, 1) := by decide +kernel
theorem dX4_letter_214 : decode cX4_letter 214 = .ok (.iadd, 1) := by decide +kernel
theorem dX4_letter_215 : decode cX4_letter 215 = .ok (.aload_n 0, 1) := by decide +kernel
theorem dX4_letter_216 : decode cX4_letter 216 = .ok (.getfield 31, 3) := by decide +kernel
theorem dX4_letter_219 : decode cX4_letter 219 = .ok (.iload_n 3, 1) := by decide +kernel
theorem dX4_letter_220 : decode cX4_letter 220 = .ok (.iaload, 1) := by decide +kernel
theorem dX4_letter_221 : decode cX4_letter 221 = .ok (.iastore, 1) := by decide +kernel
theorem dX4_letter_222 : decode cX4_letter 222 = .ok (.iinc 3 1, 3) := by decide +kernel
theorem dX4_letter_225 : decode cX4_letter 225 = .ok (.goto (-24), 3) := by decide +kernel
theorem dX4_letter_228 : decode cX4_letter 228 = .ok (.aload_n 0, 1) := by decide +kernel
theorem dX4_letter_229 : decode cX4_letter 229 = .ok (.aload_n 0, 1) := by decide +kernel
theorem dX4_letter_230 : decode cX4_letter 230 = .ok (.getfield 19, 3) := by decide +kernel
theorem dX4_letter_233 : decode cX4_letter 233 = .ok (.aload_n 0, 1) := by decide +kernel
theorem dX4_letter_234 : decode cX4_letter 234 = .ok (.getfield 25, 3) := by decide +kernel
theorem dX4_letter_237 : decode cX4_letter 237 = .ok (.aload_n 0, 1) := by decide +kernel
theorem dX4_letter_238 : decode cX4_letter 238 = .ok (.getfield 25, 3) := by decide +kernel
theorem dX4_letter_241 : decode cX4_letter 241 = .ok (.invokevirtual 132, 3) := by decide +kernel
theorem dX4_letter_244 : decode cX4_letter 244 = .ok (.aload_n 0, 1) := by decide +kernel
theorem dX4_letter_245 : decode cX4_letter 245 = .ok (.getfield 37, 3) := by decide +kernel
theorem dX4_letter_248 : decode cX4_letter 248 = .ok (.aload_n 0, 1) := by decide +kernel
theorem dX4_letter_249 : decode cX4_letter 249 = .ok (.getfield 16, 3) := by decide +kernel
theorem dX4_letter_252 : decode cX4_letter 252 = .ok (.invokestatic 143, 3) := by decide +kernel
theorem dX4_letter_255 : decode cX4_letter 255 = .ok (.aload_n 0, 1) := by decide +kernel
theorem dX4_letter_256 : decode cX4_letter 256 = .ok (.getfield 40, 3) := by decide +kernel
theorem dX4_letter_259 : decode cX4_letter 259 = .ok (.aload_n 0, 1) := by decide +kernel
theorem dX4_letter_260 : decode cX4_letter 260 = .ok (.getfield 19, 3) := by decide +kernel
theorem dX4_letter_263 : decode cX4_letter 263 = .ok (.invokestatic 143, 3) := by decide +kernel
theorem dX4_letter_266 : decode cX4_letter 266 = .ok (.aload_n 0, 1) := by decide +kernel
theorem dX4_letter_267 : decode cX4_letter 267 = .ok (.invokevirtual 97, 3) := by decide +kernel
theorem dX4_letter_270 : decode cX4_letter 270 = .ok (.ifCond .eq 25, 3) := by decide +kernel
theorem dX4_letter_273 : decode cX4_letter 273 = .ok (.aload_n 0, 1) := by decide +kernel
theorem dX4_letter_274 : decode cX4_letter 274 = .ok (.getfield 16, 3) := by decide +kernel
theorem dX4_letter_277 : decode cX4_letter 277 = .ok (.aload_n 0, 1) := by decide +kernel
theorem dX4_letter_278 : decode cX4_letter 278 = .ok (.getfield 37, 3) := by decide +kernel
theorem dX4_letter_281 : decode cX4_letter 281 = .ok (.invokestatic 143, 3) := by decide +kernel
theorem dX4_letter_284 : decode cX4_letter 284 = .ok (.aload_n 0, 1) := by decide +kernel
theorem dX4_letter_285 : decode cX4_letter 285 = .ok (.getfield 19, 3) := by decide +kernel
theorem dX4_letter_288 : decode cX4_letter 288 = .ok (.aload_n 0, 1) := by decide +kernel
theorem dX4_letter_289 : decode cX4_letter 289 = .ok (.getfield 40, 3) := by decide +kernel
theorem dX4_letter_292 : decode cX4_letter 292 = .ok (.invokestatic 143, 3) := by decide +kernel
theorem dX4_letter_295 : decode cX4_letter 295 = .ok (.aload_n 0, 1) := by decide +kernel
theorem dX4_letter_296 : decode cX4_letter 296 = .ok (.invokevirtual 147, 3) := by decide +kernel
theorem dX4_letter_299 : decode cX4_letter 299 = .ok (.ireturn, 1) := by decide +kernel
theorem dX4_top_0 : decode cX4_top 0 = .ok (.aload_n 0, 1) := by decide +kernel
theorem dX4_top_1 : decode cX4_top 1 = .ok (.aload_n 0, 1) := by decide +kernel
theorem dX4_top_2 : decode cX4_top 2 = .ok (.getfield 94, 3) := by decide +kernel
theorem dX4_top_5 : decode cX4_top 5 = .ok (.bipush 120, 2) := by decide +kernel
theorem dX4_top_7 : decode cX4_top 7 = .ok (.if_icmp .ne 7, 3) := by decide +kernel
theorem dX4_top_10 : decode cX4_top 10 = .ok (.iconst 1, 1) := by decide +kernel
theorem dX4_top_11 : decode cX4_top 11 = .ok (.goto 15, 3) := by decide +kernel
theorem dX4_top_14 : decode cX4_top 14 = .ok (.aload_n 0, 1) := by decide +kernel
theorem dX4_top_15 : decode cX4_top 15 = .ok (.getfield 119, 3) := by decide +kernel
theorem dX4_top_18 : decode cX4_top 18 = .ok (.ifCond .ne 7, 3) := by decide +kernel
theorem dX4_top_21 : decode cX4_top 21 = .ok (.iconst 2, 1) := by decide +kernel
theorem dX4_top_22 : decode cX4_top 22 = .ok (.goto 4, 3) := by decide +kernel
theorem dX4_top_25 : decode cX4_top 25 = .ok (.iconst 0, 1) := by decide +kernel
theorem dX4_top_26 : decode cX4_top 26 = .ok (.putfield 62, 3) := by decide +kernel
theorem dX4_top_29 : decode cX4_top 29 = .ok (.aload_n 0, 1) := by decide +kernel
theorem dX4_top_30 : decode cX4_top 30 = .ok (.getfield 62, 3) := by decide +kernel
theorem dX4_top_33 : decode cX4_top 33 = .ok (.ifCond .le 7, 3) := by decide +kernel
theorem dX4_top_36 : decode cX4_top 36 = .ok (.iconst 0, 1) := by decide +kernel
theorem dX4_top_37 : decode cX4_top 37 = .ok (.goto 7, 3) := by decide +kernel
theorem dX4_top_40 : decode cX4_top 40 = .ok (.aload_n 0, 1) := by decide +kernel
theorem dX4_top_41 : decode cX4_top 41 = .ok (.invokevirtual 147, 3) := by decide +kernel
theorem dX4_top_44 : decode cX4_top 44 = .ok (.ireturn, 1) := by decide +kernel
theorem dX4_sum_0 : decode cX4_sum 0 = .ok (.aload_n 0, 1) := by decide +kernel
theorem dX4_sum_1 : decode cX4_sum 1 = .ok (.iload_n 1, 1) := by decide +kernel
theorem dX4_sum_2 : decode cX4_sum 2 = .ok (.iload_n 2, 1) := by decide +kernel
theorem dX4_sum_3 : decode cX4_sum 3 = .ok (.invokevirtual 115, 3) := by decide +kernel
theorem dX4_sum_6 : decode cX4_sum 6 = .ok (.ifCond .ne 5, 3) := by decide +kernel
theorem dX4_sum_9 : decode cX4_sum 9 = .ok (.iconst 0, 1) := by decide +kernel
theorem dX4_sum_10 : decode cX4_sum 10 = .ok (.ireturn, 1) := by decide +kernel
theorem dX4_sum_11 : decode cX4_sum 11 = .ok (.aload_n 0, 1) := by decide +kernel
theorem dX4_sum_12 : decode cX4_sum 12 = .ok (.aload_n 0, 1) := by decide +kernel
theorem dX4_sum_13 : decode cX4_sum 13 = .ok (.getfield 22, 3) := by decide +kernel
theorem dX4_sum_16 : decode cX4_sum 16 = .ok (.aload_n 0, 1) := by decide +kernel
theorem dX4_sum_17 : decode cX4_sum 17 = .ok (.getfield 7, 3) := by decide +kernel
theorem dX4_sum_20 : decode cX4_sum 20 = .ok (.iload_n 1, 1) := by decide +kernel
theorem dX4_sum_21 : decode cX4_sum 21 = .ok (.invokevirtual 125, 3) := by decide +kernel
theorem dX4_sum_24 : decode cX4_sum 24 = .ok (.aload_n 0, 1) := by decide +kernel
theorem dX4_sum_25 : decode cX4_sum 25 = .ok (.aload_n 0, 1) := by decide +kernel
theorem dX4_sum_26 : decode cX4_sum 26 = .ok (.getfield 25, 3) := by decide +kernel
theorem dX4_sum_29 : decode cX4_sum 29 = .ok (.aload_n 0, 1) := by decide +kernel
theorem dX4_sum_30 : decode cX4_sum 30 = .ok (.getfield 13, 3) := by decide +kernel
theorem dX4_sum_33 : decode cX4_sum 33 = .ok (.iload_n 1, 1) := by decide +kernel
theorem dX4_sum_34 : decode cX4_sum 34 = .ok (.invokevirtual 125, 3) := by decide +kernel
theorem dX4_sum_37 : decode cX4_sum 37 = .ok (.aload_n 0, 1) := by decide +kernel
theorem dX4_sum_38 : decode cX4_sum 38 = .ok (.aload_n 0, 1) := by decide +kernel
theorem dX4_sum_39 : decode cX4_sum 39 = .ok (.getfield 28, 3) := by decide +kernel
theorem dX4_sum_42 : decode cX4_sum 42 = .ok (.aload_n 0, 1) := by decide +kernel
theorem dX4_sum_43 : decode cX4_sum 43 = .ok (.getfield 7, 3) := by decide +kernel
theorem dX4_sum_46 : decode cX4_sum 46 = .ok (.iload_n 2, 1) := by decide +kernel
theorem dX4_sum_47 : decode cX4_sum 47 = .ok (.invokevirtual 125, 3) := by decide +kernel
theorem dX4_sum_50 : decode cX4_sum 50 = .ok (.aload_n 0, 1) := by decide +kernel
theorem dX4_sum_51 : decode cX4_sum 51 = .ok (.aload_n 0, 1) := by decide +kernel
theorem dX4_sum_52 : decode cX4_sum 52 = .ok (.getfield 31, 3) := by decide +kernel
theorem dX4_sum_55 : decode cX4_sum 55 = .ok (.aload_n 0, 1) := by decide +kernel
theorem dX4_sum_56 : decode cX4_sum 56 = .ok (.getfield 13, 3) := by decide +kernel
theorem dX4_sum_59 : decode cX4_sum 59 = .ok (.iload_n 2, 1) := by decide +kernel
theorem dX4_sum_60 : decode cX4_sum 60 = .ok (.invokevirtual 125, 3) := by decide +kernel
theorem dX4_sum_63 : decode cX4_sum 63 = .ok (.aload_n 0, 1) := by decide +kernel
theorem dX4_sum_64 : decode cX4_sum 64 = .ok (.aload_n 0, 1) := by decide +kernel
theorem dX4_sum_65 : decode cX4_sum 65 = .ok (.getfield 37, 3) := by decide +kernel
theorem dX4_sum_68 : decode cX4_sum 68 = .ok (.aload_n 0, 1) := by decide +kernel
theorem dX4_sum_69 : decode cX4_sum 69 = .ok (.getfield 22, 3) := by decide +kernel
theorem dX4_sum_72 : decode cX4_sum 72 = .ok (.aload_n 0, 1) := by decide +kernel
theorem dX4_sum_73 : decode cX4_sum 73 = .ok (.getfield 31, 3) := by decide +kernel
theorem dX4_sum_76 : decode cX4_sum 76 = .ok (.invokevirtual 132, 3) := by decide +kernel
theorem dX4_sum_79 : decode cX4_sum 79 = .ok (.aload_n 0, 1) := by decide +kernel
theorem dX4_sum_80 : decode cX4_sum 80 = .ok (.aload_n 0, 1) := by decide +kernel
theorem dX4_sum_81 : decode cX4_sum 81 = .ok (.getfield 34, 3) := by decide +kernel
theorem dX4_sum_84 : decode cX4_sum 84 = .ok (.aload_n 0, 1) := by decide +kernel
theorem dX4_sum_85 : decode cX4_sum 85 = .ok (.getfield 28, 3) := by decide +kernel
theorem dX4_sum_88 : decode cX4_sum 88 = .ok (.aload_n 0, 1) := by decide +kernel
theorem dX4_sum_89 : decode cX4_sum 89 = .ok (.getfield 25, 3) := by decide +kernel
theorem dX4_sum_92 : decode cX4_sum 92 = .ok (.invokevirtual 132, 3) := by decide +kernel
theorem dX4_sum_95 : decode cX4_sum 95 = .ok (.aload_n 0, 1) := by decide +kernel
theorem dX4_sum_96 : decode cX4_sum 96 = .ok (.getfield 37, 3) := by decide +kernel
theorem dX4_sum_99 : decode cX4_sum 99 = .ok (.aload_n 0, 1) := by decide +kernel
theorem dX4_sum_100 : decode cX4_sum 100 = .ok (.getfield 34, 3) := by decide +kernel
theorem dX4_sum_103 : decode cX4_sum 103 = .ok (.iload_n 3, 1) := by decide +kernel
theorem dX4_sum_104 : decode cX4_sum 104 = .ok (.invokestatic 136, 3) := by decide +kernel
theorem dX4_sum_107 : decode cX4_sum 107 = .ok (.aload_n 0, 1) := by decide +kernel
theorem dX4_sum_108 : decode cX4_sum 108 = .ok (.aload_n 0, 1) := by decide +kernel
theorem dX4_sum_109 : decode cX4_sum 109 = .ok (.getfield 40, 3) := by decide +kernel
theorem dX4_sum_112 : decode cX4_sum 112 = .ok (.aload_n 0, 1) := by decide +kernel
theorem dX4_sum_113 : decode cX4_sum 113 = .ok (.getfield 25, 3) := by decide +kernel
theorem dX4_sum_116 : decode cX4_sum 116 = .ok (.aload_n 0, 1) := by decide +kernel
theorem dX4_sum_117 : decode cX4_sum 117 = .ok (.getfield 31, 3) := by decide +kernel
theorem dX4_sum_120 : decode cX4_sum 120 = .ok (.invokevirtual 132, 3) := by decide +kernel
theorem dX4_sum_123 : decode cX4_sum 123 = .ok (.aload_n 0, 1) := by decide +kernel
theorem dX4_sum_124 : decode cX4_sum 124 = .ok (.iconst 2, 1) := by decide +kernel
theorem dX4_sum_125 : decode cX4_sum 125 = .ok (.invokevirtual 150, 3) := by decide +kernel
theorem dX4_sum_128 : decode cX4_sum 128 = .ok (.ireturn, 1) := by decide +kernel
theorem dX4_add_0 : decode cX4_add 0 = .ok (.aload_n 0, 1) := by decide +kernel
theorem dX4_add_1 : decode cX4_add 1 = .ok (.iload_n 1, 1) := by decide +kernel
theorem dX4_add_2 : decode cX4_add 2 = .ok (.iload_n 2, 1) := by decide +kernel
theorem dX4_add_3 : decode cX4_add 3 = .ok (.iconst 1, 1) := by decide +kernel
theorem dX4_add_4 : decode cX4_add 4 = .ok (.invokevirtual 153, 3) := by decide +kernel
theorem dX4_add_7 : decode cX4_add 7 = .ok (.ireturn, 1) := by decide +kernel
theorem dX4_less_0 : decode cX4_less 0 = .ok (.aload_n 0, 1) := by decide +kernel
theorem dX4_less_1 : decode cX4_less 1 = .ok (.iload_n 1, 1) := by decide +kernel
theorem dX4_less_2 : decode cX4_less 2 = .ok (.iload_n 2, 1) := by decide +kernel
theorem dX4_less_3 : decode cX4_less 3 = .ok (.iconst (-1), 1) := by decide +kernel
theorem dX4_less_4 : decode cX4_less 4 = .ok (.invokevirtual 153, 3) := by decide +kernel
theorem dX4_less_7 : decode cX4_less 7 = .ok (.ireturn, 1) := by decide +kernel
theorem dX4_times_0 : decode cX4_times 0 = .ok (.aload_n 0, 1) := by decide +kernel
theorem dX4_times_1 : decode cX4_times 1 = .ok (.iload_n 1, 1) := by decide +kernel
theorem dX4_times_2 : decode cX4_times 2 = .ok (.iload_n 2, 1) := by decide +kernel
theorem dX4_times_3 : decode cX4_times 3 = .ok (.invokevirtual 115, 3) := by decide +kernel
theorem dX4_times_6 : decode cX4_times 6 = .ok (.ifCond .ne 5, 3) := by decide +kernel
theorem dX4_times_9 : decode cX4_times 9 = .ok (.iconst 0, 1) := by decide +kernel
theorem dX4_times_10 : decode cX4_times 10 = .ok (.ireturn, 1) := by decide +kernel
theorem dX4_times_11 : decode cX4_times 11 = .ok (.aload_n 0, 1) := by decide +kernel
theorem dX4_times_12 : decode cX4_times 12 = .ok (.aload_n 0, 1) := by decide +kernel
theorem dX4_times_13 : decode cX4_times 13 = .ok (.getfield 22, 3) := by decide +kernel
theorem dX4_times_16 : decode cX4_times 16 = .ok (.aload_n 0, 1) := by decide +kernel
theorem dX4_times_17 : decode cX4_times 17 = .ok (.getfield 7, 3) := by decide +kernel
theorem dX4_times_20 : decode cX4_times 20 = .ok (.iload_n 1, 1) := by decide +kernel
theorem dX4_times_21 : decode cX4_times 21 = .ok (.invokevirtual 125, 3) := by decide +kernel
theorem dX4_times_24 : decode cX4_times 24 = .ok (.aload_n 0, 1) := by decide +kernel
theorem dX4_times_25 : decode cX4_times 25 = .ok (.aload_n 0, 1) := by decide +kernel
theorem dX4_times_26 : decode cX4_times 26 = .ok (.getfield 25, 3) := by decide +kernel
theorem dX4_times_29 : decode cX4_times 29 = .ok (.aload_n 0, 1) := by decide +kernel
theorem dX4_times_30 : decode cX4_times 30 = .ok (.getfield 7, 3) := by decide +kernel
theorem dX4_times_33 : decode cX4_times 33 = .ok (.iload_n 2, 1) := by decide +kernel
theorem dX4_times_34 : decode cX4_times 34 = .ok (.invokevirtual 125, 3) := by decide +kernel
theorem dX4_times_37 : decode cX4_times 37 = .ok (.aload_n 0, 1) := by decide +kernel
theorem dX4_times_38 : decode cX4_times 38 = .ok (.aload_n 0, 1) := by decide +kernel
theorem dX4_times_39 : decode cX4_times 39 = .ok (.getfield 37, 3) := by decide +kernel
theorem dX4_times_42 : decode cX4_times 42 = .ok (.aload_n 0, 1) := by decide +kernel
theorem dX4_times_43 : decode cX4_times 43 = .ok (.getfield 22, 3) := by decide +kernel
theorem dX4_times_46 : decode cX4_times 46 = .ok (.aload_n 0, 1) := by decide +kernel
theorem dX4_times_47 : decode cX4_times 47 = .ok (.getfield 25, 3) := by decide +kernel
theorem dX4_times_50 : decode cX4_times 50 = .ok (.invokevirtual 132, 3) := by decide +kernel
theorem dX4_times_53 : decode cX4_times 53 = .ok (.aload_n 0, 1) := by decide +kernel
theorem dX4_times_54 : decode cX4_times 54 = .ok (.aload_n 0, 1) := by decide +kernel
theorem dX4_times_55 : decode cX4_times 55 = .ok (.getfield 22, 3) := by decide +kernel
theorem dX4_times_58 : decode cX4_times 58 = .ok (.aload_n 0, 1) := by decide +kernel
theorem dX4_times_59 : decode cX4_times 59 = .ok (.getfield 13, 3) := by decide +kernel
theorem dX4_times_62 : decode cX4_times 62 = .ok (.iload_n 1, 1) := by decide +kernel
theorem dX4_times_63 : decode cX4_times 63 = .ok (.invokevirtual 125, 3) := by decide +kernel
theorem dX4_times_66 : decode cX4_times 66 = .ok (.aload_n 0, 1) := by decide +kernel
theorem dX4_times_67 : decode cX4_times 67 = .ok (.aload_n 0, 1) := by decide +kernel
theorem dX4_times_68 : decode cX4_times 68 = .ok (.getfield 25, 3) := by decide +kernel
theorem dX4_times_71 : decode cX4_times 71 = .ok (.aload_n 0, 1) := by decide +kernel
theorem dX4_times_72 : decode cX4_times 72 = .ok (.getfield 13, 3) := by decide +kernel
theorem dX4_times_75 : decode cX4_times 75 = .ok (.iload_n 2, 1) := by decide +kernel
theorem dX4_times_76 : decode cX4_times 76 = .ok (.invokevirtual 125, 3) := by decide +kernel
theorem dX4_times_79 : decode cX4_times 79 = .ok (.aload_n 0, 1) := by decide +kernel
theorem dX4_times_80 : decode cX4_times 80 = .ok (.aload_n 0, 1) := by decide +kernel
theorem dX4_times_81 : decode cX4_times 81 = .ok (.getfield 40, 3) := by decide +kernel
theorem dX4_times_84 : decode cX4_times 84 = .ok (.aload_n 0, 1) := by decide +kernel
theorem dX4_times_85 : decode cX4_times 85 = .ok (.getfield 22, 3) := by decide +kernel
theorem dX4_times_88 : decode cX4_times 88 = .ok (.aload_n 0, 1) := by decide +kernel
theorem dX4_times_89 : decode cX4_times 89 = .ok (.getfield 25, 3) := by decide +kernel
theorem dX4_times_92 : decode cX4_times 92 = .ok (.invokevirtual 132, 3) := by decide +kernel
theorem dX4_times_95 : decode cX4_times 95 = .ok (.aload_n 0, 1) := by decide +kernel
theorem dX4_times_96 : decode cX4_times 96 = .ok (.iconst 2, 1) := by decide +kernel
theorem dX4_times_97 : decode cX4_times 97 = .ok (.invokevirtual 150, 3) := by decide +kernel
theorem dX4_times_100 : decode cX4_times 100 = .ok (.ireturn, 1) := by decide +kernel
theorem dX4_over_0 : decode cX4_over 0 = .ok (.aload_n 0, 1) := by decide +kernel
theorem dX4_over_1 : decode cX4_over 1 = .ok (.iload_n 1, 1) := by decide +kernel
theorem dX4_over_2 : decode cX4_over 2 = .ok (.iload_n 2, 1) := by decide +kernel
theorem dX4_over_3 : decode cX4_over 3 = .ok (.invokevirtual 115, 3) := by decide +kernel
theorem dX4_over_6 : decode cX4_over 6 = .ok (.ifCond .ne 5, 3) := by decide +kernel
theorem dX4_over_9 : decode cX4_over 9 = .ok (.iconst 0, 1) := by decide +kernel
theorem dX4_over_10 : decode cX4_over 10 = .ok (.ireturn, 1) := by decide +kernel
theorem dX4_over_11 : decode cX4_over 11 = .ok (.aload_n 0, 1) := by decide +kernel
theorem dX4_over_12 : decode cX4_over 12 = .ok (.aload_n 0, 1) := by decide +kernel
theorem dX4_over_13 : decode cX4_over 13 = .ok (.getfield 22, 3) := by decide +kernel
theorem dX4_over_16 : decode cX4_over 16 = .ok (.aload_n 0, 1) := by decide +kernel
theorem dX4_over_17 : decode cX4_over 17 = .ok (.getfield 7, 3) := by decide +kernel
theorem dX4_over_20 : decode cX4_over 20 = .ok (.iload_n 1, 1) := by decide +kernel
theorem dX4_over_21 : decode cX4_over 21 = .ok (.invokevirtual 125, 3) := by decide +kernel
theorem dX4_over_24 : decode cX4_over 24 = .ok (.aload_n 0, 1) := by decide +kernel
theorem dX4_over_25 : decode cX4_over 25 = .ok (.aload_n 0, 1) := by decide +kernel
theorem dX4_over_26 : decode cX4_over 26 = .ok (.getfield 25, 3) := by decide +kernel
theorem dX4_over_29 : decode cX4_over 29 = .ok (.aload_n 0, 1) := by decide +kernel
theorem dX4_over_30 : decode cX4_over 30 = .ok (.getfield 13, 3) := by decide +kernel
theorem dX4_over_33 : decode cX4_over 33 = .ok (.iload_n 2, 1) := by decide +kernel
theorem dX4_over_34 : decode cX4_over 34 = .ok (.invokevirtual 125, 3) := by decide +kernel
theorem dX4_over_37 : decode cX4_over 37 = .ok (.aload_n 0, 1) := by decide +kernel
theorem dX4_over_38 : decode cX4_over 38 = .ok (.aload_n 0, 1) := by decide +kernel
theorem dX4_over_39 : decode cX4_over 39 = .ok (.getfield 37, 3) := by decide +kernel
theorem dX4_over_42 : decode cX4_over 42 = .ok (.aload_n 0, 1) := by decide +kernel
theorem dX4_over_43 : decode cX4_over 43 = .ok (.getfield 22, 3) := by decide +kernel
theorem dX4_over_46 : decode cX4_over 46 = .ok (.aload_n 0, 1) := by decide +kernel
theorem dX4_over_47 : decode cX4_over 47 = .ok (.getfield 25, 3) := by decide +kernel
theorem dX4_over_50 : decode cX4_over 50 = .ok (.invokevirtual 132, 3) := by decide +kernel
theorem dX4_over_53 : decode cX4_over 53 = .ok (.aload_n 0, 1) := by decide +kernel
theorem dX4_over_54 : decode cX4_over 54 = .ok (.aload_n 0, 1) := by decide +kernel
theorem dX4_over_55 : decode cX4_over 55 = .ok (.getfield 22, 3) := by decide +kernel
theorem dX4_over_58 : decode cX4_over 58 = .ok (.aload_n 0, 1) := by decide +kernel
theorem dX4_over_59 : decode cX4_over 59 = .ok (.getfield 13, 3) := by decide +kernel
theorem dX4_over_62 : decode cX4_over 62 = .ok (.iload_n 1, 1) := by decide +kernel
theorem dX4_over_63 : decode cX4_over 63 = .ok (.invokevirtual 125, 3) := by decide +kernel
theorem dX4_over_66 : decode cX4_over 66 = .ok (.aload_n 0, 1) := by decide +kernel
theorem dX4_over_67 : decode cX4_over 67 = .ok (.aload_n 0, 1) := by decide +kernel
theorem dX4_over_68 : decode cX4_over 68 = .ok (.getfield 25, 3) := by decide +kernel
theorem dX4_over_71 : decode cX4_over 71 = .ok (.aload_n 0, 1) := by decide +kernel
theorem dX4_over_72 : decode cX4_over 72 = .ok (.getfield 7, 3) := by decide +kernel
theorem dX4_over_75 : decode cX4_over 75 = .ok (.iload_n 2, 1) := by decide +kernel
theorem dX4_over_76 : decode cX4_over 76 = .ok (.invokevirtual 125, 3) := by decide +kernel
theorem dX4_over_79 : decode cX4_over 79 = .ok (.aload_n 0, 1) := by decide +kernel
theorem dX4_over_80 : decode cX4_over 80 = .ok (.aload_n 0, 1) := by decide +kernel
theorem dX4_over_81 : decode cX4_over 81 = .ok (.getfield 40, 3) := by decide +kernel
theorem dX4_over_84 : decode cX4_over 84 = .ok (.aload_n 0, 1) := by decide +kernel
theorem dX4_over_85 : decode cX4_over 85 = .ok (.getfield 22, 3) := by decide +kernel
theorem dX4_over_88 : decode cX4_over 88 = .ok (.aload_n 0, 1) := by decide +kernel
theorem dX4_over_89 : decode cX4_over 89 = .ok (.getfield 25, 3) := by decide +kernel
theorem dX4_over_92 : decode cX4_over 92 = .ok (.invokevirtual 132, 3) := by decide +kernel
theorem dX4_over_95 : decode cX4_over 95 = .ok (.aload_n 0, 1) := by decide +kernel
theorem dX4_over_96 : decode cX4_over 96 = .ok (.getfield 40, 3) := by decide +kernel
theorem dX4_over_99 : decode cX4_over 99 = .ok (.invokestatic 139, 3) := by decide +kernel
theorem dX4_over_102 : decode cX4_over 102 = .ok (.ifCond .eq 7, 3) := by decide +kernel
theorem dX4_over_105 : decode cX4_over 105 = .ok (.iconst (-1), 1) := by decide +kernel
theorem dX4_over_106 : decode cX4_over 106 = .ok (.goto 8, 3) := by decide +kernel
theorem dX4_over_109 : decode cX4_over 109 = .ok (.aload_n 0, 1) := by decide +kernel
theorem dX4_over_110 : decode cX4_over 110 = .ok (.iconst 2, 1) := by decide +kernel
theorem dX4_over_111 : decode cX4_over 111 = .ok (.invokevirtual 150, 3) := by decide +kernel
theorem dX4_over_114 : decode cX4_over 114 = .ok (.ireturn, 1) := by decide +kernel
theorem dX4_deriveRow_0 : decode cX4_deriveRow 0 = .ok (.aload_n 0, 1) := by decide +kernel
theorem dX4_deriveRow_1 : decode cX4_deriveRow 1 = .ok (.getfield 28, 3) := by decide +kernel
theorem dX4_deriveRow_4 : decode cX4_deriveRow 4 = .ok (.aload_n 2, 1) := by decide +kernel
theorem dX4_deriveRow_5 : decode cX4_deriveRow 5 = .ok (.iconst 1, 1) := by decide +kernel
theorem dX4_deriveRow_6 : decode cX4_deriveRow 6 = .ok (.invokestatic 129, 3) := by decide +kernel
theorem dX4_deriveRow_9 : decode cX4_deriveRow 9 = .ok (.aload_n 0, 1) := by decide +kernel
theorem dX4_deriveRow_10 : decode cX4_deriveRow 10 = .ok (.getfield 119, 3) := by decide +kernel
theorem dX4_deriveRow_13 : decode cX4_deriveRow 13 = .ok (.ifCond .ne 12, 3) := by decide +kernel
theorem dX4_deriveRow_16 : decode cX4_deriveRow 16 = .ok (.aload_n 1, 1) := by decide +kernel
theorem dX4_deriveRow_17 : decode cX4_deriveRow 17 = .ok (.aload_n 0, 1) := by decide +kernel
theorem dX4_deriveRow_18 : decode cX4_deriveRow 18 = .ok (.getfield 28, 3) := by decide +kernel
theorem dX4_deriveRow_21 : decode cX4_deriveRow 21 = .ok (.invokestatic 143, 3) := by decide +kernel
theorem dX4_deriveRow_24 : decode cX4_deriveRow 24 = .ok (.return_, 1) := by decide +kernel
theorem dX4_deriveRow_25 : decode cX4_deriveRow 25 = .ok (.aload_n 0, 1) := by decide +kernel
theorem dX4_deriveRow_26 : decode cX4_deriveRow 26 = .ok (.aload_n 1, 1) := by decide +kernel
theorem dX4_deriveRow_27 : decode cX4_deriveRow 27 = .ok (.aload_n 0, 1) := by decide +kernel
theorem dX4_deriveRow_28 : decode cX4_deriveRow 28 = .ok (.getfield 28, 3) := by decide +kernel
theorem dX4_deriveRow_31 : decode cX4_deriveRow 31 = .ok (.aload_n 0, 1) := by decide +kernel
theorem dX4_deriveRow_32 : decode cX4_deriveRow 32 = .ok (.getfield 19, 3) := by decide +kernel
theorem dX4_deriveRow_35 : decode cX4_deriveRow 35 = .ok (.invokevirtual 132, 3) := by decide +kernel
theorem dX4_deriveRow_38 : decode cX4_deriveRow 38 = .ok (.aload_n 0, 1) := by decide +kernel
theorem dX4_deriveRow_39 : decode cX4_deriveRow 39 = .ok (.getfield 28, 3) := by decide +kernel
theorem dX4_deriveRow_42 : decode cX4_deriveRow 42 = .ok (.aload_n 2, 1) := by decide +kernel
theorem dX4_deriveRow_43 : decode cX4_deriveRow 43 = .ok (.bipush 40, 2) := by decide +kernel
theorem dX4_deriveRow_45 : decode cX4_deriveRow 45 = .ok (.invokestatic 129, 3) := by decide +kernel
theorem dX4_deriveRow_48 : decode cX4_deriveRow 48 = .ok (.aload_n 0, 1) := by decide +kernel
theorem dX4_deriveRow_49 : decode cX4_deriveRow 49 = .ok (.aload_n 0, 1) := by decide +kernel
theorem dX4_deriveRow_50 : decode cX4_deriveRow 50 = .ok (.getfield 34, 3) := by decide +kernel
theorem dX4_deriveRow_53 : decode cX4_deriveRow 53 = .ok (.aload_n 0, 1) := by decide +kernel
theorem dX4_deriveRow_54 : decode cX4_deriveRow 54 = .ok (.getfield 28, 3) := by decide +kernel
theorem dX4_deriveRow_57 : decode cX4_deriveRow 57 = .ok (.aload_n 0, 1) := by decide +kernel
theorem dX4_deriveRow_58 : decode cX4_deriveRow 58 = .ok (.getfield 16, 3) := by decide +kernel
theorem dX4_deriveRow_61 : decode cX4_deriveRow 61 = .ok (.invokevirtual 132, 3) := by decide +kernel
theorem dX4_deriveRow_64 : decode cX4_deriveRow 64 = .ok (.aload_n 1, 1) := by decide +kernel
theorem dX4_deriveRow_65 : decode cX4_deriveRow 65 = .ok (.aload_n 0, 1) := by decide +kernel
theorem dX4_deriveRow_66 : decode cX4_deriveRow 66 = .ok (.getfield 34, 3) := by decide +kernel
theorem dX4_deriveRow_69 : decode cX4_deriveRow 69 = .ok (.iconst 1, 1) := by decide +kernel
theorem dX4_deriveRow_70 : decode cX4_deriveRow 70 = .ok (.invokestatic 136, 3) := by decide +kernel
theorem dX4_deriveRow_73 : decode cX4_deriveRow 73 = .ok (.return_, 1) := by decide +kernel
theorem dX4_deriveUp_0 : decode cX4_deriveUp 0 = .ok (.aload_n 0, 1) := by decide +kernel
theorem dX4_deriveUp_1 : decode cX4_deriveUp 1 = .ok (.aload_n 0, 1) := by decide +kernel
theorem dX4_deriveUp_2 : decode cX4_deriveUp 2 = .ok (.getfield 22, 3) := by decide +kernel
theorem dX4_deriveUp_5 : decode cX4_deriveUp 5 = .ok (.aload_n 0, 1) := by decide +kernel
theorem dX4_deriveUp_6 : decode cX4_deriveUp 6 = .ok (.getfield 7, 3) := by decide +kernel
theorem dX4_deriveUp_9 : decode cX4_deriveUp 9 = .ok (.iload_n 1, 1) := by decide +kernel
theorem dX4_deriveUp_10 : decode cX4_deriveUp 10 = .ok (.invokevirtual 125, 3) := by decide +kernel
theorem dX4_deriveUp_13 : decode cX4_deriveUp 13 = .ok (.aload_n 0, 1) := by decide +kernel
theorem dX4_deriveUp_14 : decode cX4_deriveUp 14 = .ok (.aload_n 0, 1) := by decide +kernel
theorem dX4_deriveUp_15 : decode cX4_deriveUp 15 = .ok (.getfield 25, 3) := by decide +kernel
theorem dX4_deriveUp_18 : decode cX4_deriveUp 18 = .ok (.aload_n 0, 1) := by decide +kernel
theorem dX4_deriveUp_19 : decode cX4_deriveUp 19 = .ok (.getfield 13, 3) := by decide +kernel
theorem dX4_deriveUp_22 : decode cX4_deriveUp 22 = .ok (.iload_n 1, 1) := by decide +kernel
theorem dX4_deriveUp_23 : decode cX4_deriveUp 23 = .ok (.invokevirtual 125, 3) := by decide +kernel
theorem dX4_deriveUp_26 : decode cX4_deriveUp 26 = .ok (.aload_n 0, 1) := by decide +kernel
theorem dX4_deriveUp_27 : decode cX4_deriveUp 27 = .ok (.aload_n 0, 1) := by decide +kernel
theorem dX4_deriveUp_28 : decode cX4_deriveUp 28 = .ok (.getfield 31, 3) := by decide +kernel
theorem dX4_deriveUp_31 : decode cX4_deriveUp 31 = .ok (.aload_n 0, 1) := by decide +kernel
theorem dX4_deriveUp_32 : decode cX4_deriveUp 32 = .ok (.getfield 22, 3) := by decide +kernel
theorem dX4_deriveUp_35 : decode cX4_deriveUp 35 = .ok (.invokevirtual 157, 3) := by decide +kernel
theorem dX4_deriveUp_38 : decode cX4_deriveUp 38 = .ok (.aload_n 0, 1) := by decide +kernel
theorem dX4_deriveUp_39 : decode cX4_deriveUp 39 = .ok (.aload_n 0, 1) := by decide +kernel
theorem dX4_deriveUp_40 : decode cX4_deriveUp 40 = .ok (.getfield 37, 3) := by decide +kernel
theorem dX4_deriveUp_43 : decode cX4_deriveUp 43 = .ok (.aload_n 0, 1) := by decide +kernel
theorem dX4_deriveUp_44 : decode cX4_deriveUp 44 = .ok (.getfield 31, 3) := by decide +kernel
theorem dX4_deriveUp_47 : decode cX4_deriveUp 47 = .ok (.aload_n 0, 1) := by decide +kernel
theorem dX4_deriveUp_48 : decode cX4_deriveUp 48 = .ok (.getfield 25, 3) := by decide +kernel
theorem dX4_deriveUp_51 : decode cX4_deriveUp 51 = .ok (.invokevirtual 132, 3) := by decide +kernel
theorem dX4_deriveUp_54 : decode cX4_deriveUp 54 = .ok (.aload_n 0, 1) := by decide +kernel
theorem dX4_deriveUp_55 : decode cX4_deriveUp 55 = .ok (.aload_n 0, 1) := by decide +kernel
theorem dX4_deriveUp_56 : decode cX4_deriveUp 56 = .ok (.getfield 31, 3) := by decide +kernel
theorem dX4_deriveUp_59 : decode cX4_deriveUp 59 = .ok (.aload_n 0, 1) := by decide +kernel
theorem dX4_deriveUp_60 : decode cX4_deriveUp 60 = .ok (.getfield 25, 3) := by decide +kernel
theorem dX4_deriveUp_63 : decode cX4_deriveUp 63 = .ok (.invokevirtual 157, 3) := by decide +kernel
theorem dX4_deriveUp_66 : decode cX4_deriveUp 66 = .ok (.aload_n 0, 1) := by decide +kernel
theorem dX4_deriveUp_67 : decode cX4_deriveUp 67 = .ok (.aload_n 0, 1) := by decide +kernel
theorem dX4_deriveUp_68 : decode cX4_deriveUp 68 = .ok (.getfield 34, 3) := by decide +kernel
theorem dX4_deriveUp_71 : decode cX4_deriveUp 71 = .ok (.aload_n 0, 1) := by decide +kernel
theorem dX4_deriveUp_72 : decode cX4_deriveUp 72 = .ok (.getfield 31, 3) := by decide +kernel
theorem dX4_deriveUp_75 : decode cX4_deriveUp 75 = .ok (.aload_n 0, 1) := by decide +kernel
theorem dX4_deriveUp_76 : decode cX4_deriveUp 76 = .ok (.getfield 22, 3) := by decide +kernel
theorem dX4_deriveUp_79 : decode cX4_deriveUp 79 = .ok (.invokevirtual 132, 3) := by decide +kernel
theorem dX4_deriveUp_82 : decode cX4_deriveUp 82 = .ok (.aload_n 0, 1) := by decide +kernel
theorem dX4_deriveUp_83 : decode cX4_deriveUp 83 = .ok (.getfield 37, 3) := by decide +kernel
theorem dX4_deriveUp_86 : decode cX4_deriveUp 86 = .ok (.aload_n 0, 1) := by decide +kernel
theorem dX4_deriveUp_87 : decode cX4_deriveUp 87 = .ok (.getfield 34, 3) := by decide +kernel
theorem dX4_deriveUp_90 : decode cX4_deriveUp 90 = .ok (.iconst (-1), 1) := by decide +kernel
theorem dX4_deriveUp_91 : decode cX4_deriveUp 91 = .ok (.invokestatic 136, 3) := by decide +kernel
theorem dX4_deriveUp_94 : decode cX4_deriveUp 94 = .ok (.return_, 1) := by decide +kernel
theorem dX4_finish_0 : decode cX4_finish 0 = .ok (.aload_n 0, 1) := by decide +kernel
theorem dX4_finish_1 : decode cX4_finish 1 = .ok (.aload_n 0, 1) := by decide +kernel
theorem dX4_finish_2 : decode cX4_finish 2 = .ok (.getfield 28, 3) := by decide +kernel
theorem dX4_finish_5 : decode cX4_finish 5 = .ok (.aload_n 1, 1) := by decide +kernel
theorem dX4_finish_6 : decode cX4_finish 6 = .ok (.aload_n 2, 1) := by decide +kernel
theorem dX4_finish_7 : decode cX4_finish 7 = .ok (.invokevirtual 132, 3) := by decide +kernel
theorem dX4_finish_10 : decode cX4_finish 10 = .ok (.aload_n 0, 1) := by decide +kernel
theorem dX4_finish_11 : decode cX4_finish 11 = .ok (.getfield 119, 3) := by decide +kernel
theorem dX4_finish_14 : decode cX4_finish 14 = .ok (.ifCond .ne 17, 3) := by decide +kernel
theorem dX4_finish_17 : decode cX4_finish 17 = .ok (.aload_n 0, 1) := by decide +kernel
theorem dX4_finish_18 : decode cX4_finish 18 = .ok (.getfield 40, 3) := by decide +kernel
theorem dX4_finish_21 : decode cX4_finish 21 = .ok (.aload_n 0, 1) := by decide +kernel
theorem dX4_finish_22 : decode cX4_finish 22 = .ok (.getfield 28, 3) := by decide +kernel
theorem dX4_finish_25 : decode cX4_finish 25 = .ok (.invokestatic 143, 3) := by decide +kernel
theorem dX4_finish_28 : decode cX4_finish 28 = .ok (.goto 19, 3) := by decide +kernel
theorem dX4_finish_31 : decode cX4_finish 31 = .ok (.aload_n 0, 1) := by decide +kernel
theorem dX4_finish_32 : decode cX4_finish 32 = .ok (.aload_n 0, 1) := by decide +kernel
theorem dX4_finish_33 : decode cX4_finish 33 = .ok (.getfield 40, 3) := by decide +kernel
theorem dX4_finish_36 : decode cX4_finish 36 = .ok (.aload_n 0, 1) := by decide +kernel
theorem dX4_finish_37 : decode cX4_finish 37 = .ok (.getfield 28, 3) := by decide +kernel
theorem dX4_finish_40 : decode cX4_finish 40 = .ok (.aload_n 0, 1) := by decide +kernel
theorem dX4_finish_41 : decode cX4_finish 41 = .ok (.getfield 19, 3) := by decide +kernel
theorem dX4_finish_44 : decode cX4_finish 44 = .ok (.invokevirtual 132, 3) := by decide +kernel
theorem dX4_finish_47 : decode cX4_finish 47 = .ok (.return_, 1) := by decide +kernel
theorem dX4_derive_0 : decode cX4_derive 0 = .ok (.aload_n 0, 1) := by decide +kernel
theorem dX4_derive_1 : decode cX4_derive 1 = .ok (.iload_n 1, 1) := by decide +kernel
theorem dX4_derive_2 : decode cX4_derive 2 = .ok (.iload_n 1, 1) := by decide +kernel
theorem dX4_derive_3 : decode cX4_derive 3 = .ok (.invokevirtual 115, 3) := by decide +kernel
theorem dX4_derive_6 : decode cX4_derive 6 = .ok (.ifCond .ne 5, 3) := by decide +kernel
theorem dX4_derive_9 : decode cX4_derive 9 = .ok (.iconst 0, 1) := by decide +kernel
theorem dX4_derive_10 : decode cX4_derive 10 = .ok (.ireturn, 1) := by decide +kernel
theorem dX4_derive_11 : decode cX4_derive 11 = .ok (.aload_n 0, 1) := by decide +kernel
theorem dX4_derive_12 : decode cX4_derive 12 = .ok (.iload_n 1, 1) := by decide +kernel
theorem dX4_derive_13 : decode cX4_derive 13 = .ok (.invokevirtual 160, 3) := by decide +kernel
theorem dX4_derive_16 : decode cX4_derive 16 = .ok (.aload_n 0, 1) := by decide +kernel
theorem dX4_derive_17 : decode cX4_derive 17 = .ok (.aload_n 0, 1) := by decide +kernel
theorem dX4_derive_18 : decode cX4_derive 18 = .ok (.getfield 25, 3) := by decide +kernel
theorem dX4_derive_21 : decode cX4_derive 21 = .ok (.aload_n 0, 1) := by decide +kernel
theorem dX4_derive_22 : decode cX4_derive 22 = .ok (.getfield 25, 3) := by decide +kernel
theorem dX4_derive_25 : decode cX4_derive 25 = .ok (.invokevirtual 164, 3) := by decide +kernel
theorem dX4_derive_28 : decode cX4_derive 28 = .ok (.aload_n 0, 1) := by decide +kernel
theorem dX4_derive_29 : decode cX4_derive 29 = .ok (.iconst 2, 1) := by decide +kernel
theorem dX4_derive_30 : decode cX4_derive 30 = .ok (.invokevirtual 150, 3) := by decide +kernel
theorem dX4_derive_33 : decode cX4_derive 33 = .ok (.ireturn, 1) := by decide +kernel
theorem dX4_logarithmic_0 : decode cX4_logarithmic 0 = .ok (.aload_n 0, 1) := by decide +kernel
theorem dX4_logarithmic_1 : decode cX4_logarithmic 1 = .ok (.iload_n 1, 1) := by decide +kernel
theorem dX4_logarithmic_2 : decode cX4_logarithmic 2 = .ok (.iload_n 1, 1) := by decide +kernel
theorem dX4_logarithmic_3 : decode cX4_logarithmic 3 = .ok (.invokevirtual 115, 3) := by decide +kernel
theorem dX4_logarithmic_6 : decode cX4_logarithmic 6 = .ok (.ifCond .ne 5, 3) := by decide +kernel
theorem dX4_logarithmic_9 : decode cX4_logarithmic 9 = .ok (.iconst 0, 1) := by decide +kernel
theorem dX4_logarithmic_10 : decode cX4_logarithmic 10 = .ok (.ireturn, 1) := by decide +kernel
theorem dX4_logarithmic_11 : decode cX4_logarithmic 11 = .ok (.aload_n 0, 1) := by decide +kernel
theorem dX4_logarithmic_12 : decode cX4_logarithmic 12 = .ok (.iload_n 1, 1) := by decide +kernel
theorem dX4_logarithmic_13 : decode cX4_logarithmic 13 = .ok (.invokevirtual 160, 3) := by decide +kernel
theorem dX4_logarithmic_16 : decode cX4_logarithmic 16 = .ok (.aload_n 0, 1) := by decide +kernel
theorem dX4_logarithmic_17 : decode cX4_logarithmic 17 = .ok (.getfield 22, 3) := by decide +kernel
theorem dX4_logarithmic_20 : decode cX4_logarithmic 20 = .ok (.invokestatic 139, 3) := by decide +kernel
theorem dX4_logarithmic_23 : decode cX4_logarithmic 23 = .ok (.ifCond .eq 5, 3) := by decide +kernel
theorem dX4_logarithmic_26 : decode cX4_logarithmic 26 = .ok (.iconst (-1), 1) := by decide +kernel
theorem dX4_logarithmic_27 : decode cX4_logarithmic 27 = .ok (.ireturn, 1) := by decide +kernel
theorem dX4_logarithmic_28 : decode cX4_logarithmic 28 = .ok (.aload_n 0, 1) := by decide +kernel
theorem dX4_logarithmic_29 : decode cX4_logarithmic 29 = .ok (.aload_n 0, 1) := by decide +kernel
theorem dX4_logarithmic_30 : decode cX4_logarithmic 30 = .ok (.getfield 22, 3) := by decide +kernel
theorem dX4_logarithmic_33 : decode cX4_logarithmic 33 = .ok (.aload_n 0, 1) := by decide +kernel
theorem dX4_logarithmic_34 : decode cX4_logarithmic 34 = .ok (.getfield 25, 3) := by decide +kernel
theorem dX4_logarithmic_37 : decode cX4_logarithmic 37 = .ok (.invokevirtual 164, 3) := by decide +kernel
theorem dX4_logarithmic_40 : decode cX4_logarithmic 40 = .ok (.aload_n 0, 1) := by decide +kernel
theorem dX4_logarithmic_41 : decode cX4_logarithmic 41 = .ok (.iconst 2, 1) := by decide +kernel
theorem dX4_logarithmic_42 : decode cX4_logarithmic 42 = .ok (.invokevirtual 150, 3) := by decide +kernel
theorem dX4_logarithmic_45 : decode cX4_logarithmic 45 = .ok (.ireturn, 1) := by decide +kernel
theorem dX4_divide_0 : decode cX4_divide 0 = .ok (.aload_n 1, 1) := by decide +kernel
theorem dX4_divide_1 : decode cX4_divide 1 = .ok (.sipush 880, 3) := by decide +kernel
theorem dX4_divide_4 : decode cX4_divide 4 = .ok (.invokestatic 72, 3) := by decide +kernel
theorem dX4_divide_7 : decode cX4_divide 7 = .ok (.istore_n 2, 1) := by decide +kernel
theorem dX4_divide_8 : decode cX4_divide 8 = .ok (.aload_n 1, 1) := by decide +kernel
theorem dX4_divide_9 : decode cX4_divide 9 = .ok (.iload_n 2, 1) := by decide +kernel
theorem dX4_divide_10 : decode cX4_divide 10 = .ok (.iaload, 1) := by decide +kernel
theorem dX4_divide_11 : decode cX4_divide 11 = .ok (.invokestatic 90, 3) := by decide +kernel
theorem dX4_divide_14 : decode cX4_divide 14 = .ok (.istore_n 3, 1) := by decide +kernel
theorem dX4_divide_15 : decode cX4_divide 15 = .ok (.aload_n 0, 1) := by decide +kernel
theorem dX4_divide_16 : decode cX4_divide 16 = .ok (.getfield 28, 3) := by decide +kernel
theorem dX4_divide_19 : decode cX4_divide 19 = .ok (.invokestatic 68, 3) := by decide +kernel
theorem dX4_divide_22 : decode cX4_divide 22 = .ok (.aload_n 0, 1) := by decide +kernel
theorem dX4_divide_23 : decode cX4_divide 23 = .ok (.getfield 37, 3) := by decide +kernel
theorem dX4_divide_26 : decode cX4_divide 26 = .ok (.sipush 880, 3) := by decide +kernel
theorem dX4_divide_29 : decode cX4_divide 29 = .ok (.invokestatic 72, 3) := by decide +kernel
theorem dX4_divide_32 : decode cX4_divide 32 = .ok (.istore 4, 2) := by decide +kernel
theorem dX4_divide_34 : decode cX4_divide 34 = .ok (.iload 4, 2) := by decide +kernel
theorem dX4_divide_36 : decode cX4_divide 36 = .ok (.iload_n 2, 1) := by decide +kernel
theorem dX4_divide_37 : decode cX4_divide 37 = .ok (.if_icmp .lt 111, 3) := by decide +kernel
theorem dX4_divide_40 : decode cX4_divide 40 = .ok (.aload_n 0, 1) := by decide +kernel
theorem dX4_divide_41 : decode cX4_divide 41 = .ok (.getfield 37, 3) := by decide +kernel
theorem dX4_divide_44 : decode cX4_divide 44 = .ok (.iload 4, 2) := by decide +kernel
theorem dX4_divide_46 : decode cX4_divide 46 = .ok (.iaload, 1) := by decide +kernel
theorem dX4_divide_47 : decode cX4_divide 47 = .ok (.ifCond .ne 6, 3) := by decide +kernel
theorem dX4_divide_50 : decode cX4_divide 50 = .ok (.goto 92, 3) := by decide +kernel
theorem dX4_divide_53 : decode cX4_divide 53 = .ok (.aload_n 0, 1) := by decide +kernel
theorem dX4_divide_54 : decode cX4_divide 54 = .ok (.getfield 37, 3) := by decide +kernel
theorem dX4_divide_57 : decode cX4_divide 57 = .ok (.iload 4, 2) := by decide +kernel
theorem dX4_divide_59 : decode cX4_divide 59 = .ok (.iaload, 1) := by decide +kernel
theorem dX4_divide_60 : decode cX4_divide 60 = .ok (.i2l, 1) := by decide +kernel
theorem dX4_divide_61 : decode cX4_divide 61 = .ok (.iload_n 3, 1) := by decide +kernel
theorem dX4_divide_62 : decode cX4_divide 62 = .ok (.i2l, 1) := by decide +kernel
theorem dX4_divide_63 : decode cX4_divide 63 = .ok (.lmul, 1) := by decide +kernel
theorem dX4_divide_64 : decode cX4_divide 64 = .ok (.ldc2_w 66, 3) := by decide +kernel
theorem dX4_divide_67 : decode cX4_divide 67 = .ok (.lrem, 1) := by decide +kernel
theorem dX4_divide_68 : decode cX4_divide 68 = .ok (.l2i, 1) := by decide +kernel
theorem dX4_divide_69 : decode cX4_divide 69 = .ok (.istore 5, 2) := by decide +kernel
theorem dX4_divide_71 : decode cX4_divide 71 = .ok (.aload_n 0, 1) := by decide +kernel
theorem dX4_divide_72 : decode cX4_divide 72 = .ok (.getfield 28, 3) := by decide +kernel
theorem dX4_divide_75 : decode cX4_divide 75 = .ok (.iload 4, 2) := by decide +kernel
theorem dX4_divide_77 : decode cX4_divide 77 = .ok (.iload_n 2, 1) := by decide +kernel
theorem dX4_divide_78 : decode cX4_divide 78 = .ok (.isub, 1) := by decide +kernel
theorem dX4_divide_79 : decode cX4_divide 79 = .ok (.iload 5, 2) := by decide +kernel
theorem dX4_divide_81 : decode cX4_divide 81 = .ok (.iastore, 1) := by decide +kernel
theorem dX4_divide_82 : decode cX4_divide 82 = .ok (.iconst 0, 1) := by decide +kernel
theorem dX4_divide_83 : decode cX4_divide 83 = .ok (.istore 6, 2) := by decide +kernel
theorem dX4_divide_85 : decode cX4_divide 85 = .ok (.iload 6, 2) := by decide +kernel
theorem dX4_divide_87 : decode cX4_divide 87 = .ok (.iload_n 2, 1) := by decide +kernel
theorem dX4_divide_88 : decode cX4_divide 88 = .ok (.if_icmp .gt 54, 3) := by decide +kernel
theorem dX4_divide_91 : decode cX4_divide 91 = .ok (.aload_n 1, 1) := by decide +kernel
theorem dX4_divide_92 : decode cX4_divide 92 = .ok (.iload 6, 2) := by decide +kernel
theorem dX4_divide_94 : decode cX4_divide 94 = .ok (.iaload, 1) := by decide +kernel
theorem dX4_divide_95 : decode cX4_divide 95 = .ok (.ifCond .eq 41, 3) := by decide +kernel
theorem dX4_divide_98 : decode cX4_divide 98 = .ok (.aload_n 0, 1) := by decide +kernel
theorem dX4_divide_99 : decode cX4_divide 99 = .ok (.getfield 37, 3) := by decide +kernel
theorem dX4_divide_102 : decode cX4_divide 102 = .ok (.iload 4, 2) := by decide +kernel
theorem dX4_divide_104 : decode cX4_divide 104 = .ok (.iload_n 2, 1) := by decide +kernel
theorem dX4_divide_105 : decode cX4_divide 105 = .ok (.isub, 1) := by decide +kernel
theorem dX4_divide_106 : decode cX4_divide 106 = .ok (.iload 6, 2) := by decide +kernel
theorem dX4_divide_108 : decode cX4_divide 108 = .ok (.iadd, 1) := by decide +kernel
theorem dX4_divide_109 : decode cX4_divide 109 = .ok (.aload_n 0, 1) := by decide +kernel
theorem dX4_divide_110 : decode cX4_divide 110 = .ok (.getfield 37, 3) := by decide +kernel
theorem dX4_divide_113 : decode cX4_divide 113 = .ok (.iload 4, 2) := by decide +kernel
theorem dX4_divide_115 : decode cX4_divide 115 = .ok (.iload_n 2, 1) := by decide +kernel
theorem dX4_divide_116 : decode cX4_divide 116 = .ok (.isub, 1) := by decide +kernel
theorem dX4_divide_117 : decode cX4_divide 117 = .ok (.iload 6, 2) := by decide +kernel
theorem dX4_divide_119 : decode cX4_divide 119 = .ok (.iadd, 1) := by decide +kernel
theorem dX4_divide_120 : decode cX4_divide 120 = .ok (.iaload, 1) := by decide +kernel
theorem dX4_divide_121 : decode cX4_divide 121 = .ok (.i2l, 1) := by decide +kernel
theorem dX4_divide_122 : decode cX4_divide 122 = .ok (.iload 5, 2) := by decide +kernel
theorem dX4_divide_124 : decode cX4_divide 124 = .ok (.i2l, 1) := by decide +kernel
theorem dX4_divide_125 : decode cX4_divide 125 = .ok (.aload_n 1, 1) := by decide +kernel
theorem dX4_divide_126 : decode cX4_divide 126 = .ok (.iload 6, 2) := by decide +kernel
theorem dX4_divide_128 : decode cX4_divide 128 = .ok (.iaload, 1) := by decide +kernel
theorem dX4_divide_129 : decode cX4_divide 129 = .ok (.i2l, 1) := by decide +kernel
theorem dX4_divide_130 : decode cX4_divide 130 = .ok (.lmul, 1) := by decide +kernel
theorem dX4_divide_131 : decode cX4_divide 131 = .ok (.lsub, 1) := by decide +kernel
theorem dX4_divide_132 : decode cX4_divide 132 = .ok (.invokestatic 76, 3) := by decide +kernel
theorem dX4_divide_135 : decode cX4_divide 135 = .ok (.iastore, 1) := by decide +kernel
theorem dX4_divide_136 : decode cX4_divide 136 = .ok (.iinc 6 1, 3) := by decide +kernel
theorem dX4_divide_139 : decode cX4_divide 139 = .ok (.goto (-54), 3) := by decide +kernel
theorem dX4_divide_142 : decode cX4_divide 142 = .ok (.iinc 4 (-1), 3) := by decide +kernel
theorem dX4_divide_145 : decode cX4_divide 145 = .ok (.goto (-111), 3) := by decide +kernel
theorem dX4_divide_148 : decode cX4_divide 148 = .ok (.aload_n 0, 1) := by decide +kernel
theorem dX4_divide_149 : decode cX4_divide 149 = .ok (.getfield 37, 3) := by decide +kernel
theorem dX4_divide_152 : decode cX4_divide 152 = .ok (.aload_n 0, 1) := by decide +kernel
theorem dX4_divide_153 : decode cX4_divide 153 = .ok (.getfield 28, 3) := by decide +kernel
theorem dX4_divide_156 : decode cX4_divide 156 = .ok (.invokestatic 143, 3) := by decide +kernel
theorem dX4_divide_159 : decode cX4_divide 159 = .ok (.return_, 1) := by decide +kernel
theorem dX4_makeMonic_0 : decode cX4_makeMonic 0 = .ok (.aload_n 1, 1) := by decide +kernel
theorem dX4_makeMonic_1 : decode cX4_makeMonic 1 = .ok (.sipush 880, 3) := by decide +kernel
theorem dX4_makeMonic_4 : decode cX4_makeMonic 4 = .ok (.invokestatic 72, 3) := by decide +kernel
theorem dX4_makeMonic_7 : decode cX4_makeMonic 7 = .ok (.istore_n 2, 1) := by decide +kernel
theorem dX4_makeMonic_8 : decode cX4_makeMonic 8 = .ok (.iload_n 2, 1) := by decide +kernel
theorem dX4_makeMonic_9 : decode cX4_makeMonic 9 = .ok (.ifCond .ge 4, 3) := by decide +kernel
theorem dX4_makeMonic_12 : decode cX4_makeMonic 12 = .ok (.return_, 1) := by decide +kernel
theorem dX4_makeMonic_13 : decode cX4_makeMonic 13 = .ok (.aload_n 1, 1) := by decide +kernel
theorem dX4_makeMonic_14 : decode cX4_makeMonic 14 = .ok (.iload_n 2, 1) := by decide +kernel
theorem dX4_makeMonic_15 : decode cX4_makeMonic 15 = .ok (.iaload, 1) := by decide +kernel
theorem dX4_makeMonic_16 : decode cX4_makeMonic 16 = .ok (.invokestatic 90, 3) := by decide +kernel
theorem dX4_makeMonic_19 : decode cX4_makeMonic 19 = .ok (.istore_n 3, 1) := by decide +kernel
theorem dX4_makeMonic_20 : decode cX4_makeMonic 20 = .ok (.iconst 0, 1) := by decide +kernel
theorem dX4_makeMonic_21 : decode cX4_makeMonic 21 = .ok (.istore 4, 2) := by decide +kernel
theorem dX4_makeMonic_23 : decode cX4_makeMonic 23 = .ok (.iload 4, 2) := by decide +kernel
theorem dX4_makeMonic_25 : decode cX4_makeMonic 25 = .ok (.sipush 880, 3) := by decide +kernel
theorem dX4_makeMonic_28 : decode cX4_makeMonic 28 = .ok (.if_icmp .ge 26, 3) := by decide +kernel
theorem dX4_makeMonic_31 : decode cX4_makeMonic 31 = .ok (.aload_n 1, 1) := by decide +kernel
theorem dX4_makeMonic_32 : decode cX4_makeMonic 32 = .ok (.iload 4, 2) := by decide +kernel
theorem dX4_makeMonic_34 : decode cX4_makeMonic 34 = .ok (.aload_n 1, 1) := by decide +kernel
theorem dX4_makeMonic_35 : decode cX4_makeMonic 35 = .ok (.iload 4, 2) := by decide +kernel
theorem dX4_makeMonic_37 : decode cX4_makeMonic 37 = .ok (.iaload, 1) := by decide +kernel
theorem dX4_makeMonic_38 : decode cX4_makeMonic 38 = .ok (.i2l, 1) := by decide +kernel
theorem dX4_makeMonic_39 : decode cX4_makeMonic 39 = .ok (.iload_n 3, 1) := by decide +kernel
theorem dX4_makeMonic_40 : decode cX4_makeMonic 40 = .ok (.i2l, 1) := by decide +kernel
theorem dX4_makeMonic_41 : decode cX4_makeMonic 41 = .ok (.lmul, 1) := by decide +kernel
theorem dX4_makeMonic_42 : decode cX4_makeMonic 42 = .ok (.ldc2_w 66, 3) := by decide +kernel
theorem dX4_makeMonic_45 : decode cX4_makeMonic 45 = .ok (.lrem, 1) := by decide +kernel
theorem dX4_makeMonic_46 : decode cX4_makeMonic 46 = .ok (.l2i, 1) := by decide +kernel
theorem dX4_makeMonic_47 : decode cX4_makeMonic 47 = .ok (.iastore, 1) := by decide +kernel
theorem dX4_makeMonic_48 : decode cX4_makeMonic 48 = .ok (.iinc 4 1, 3) := by decide +kernel
theorem dX4_makeMonic_51 : decode cX4_makeMonic 51 = .ok (.goto (-28), 3) := by decide +kernel
theorem dX4_makeMonic_54 : decode cX4_makeMonic 54 = .ok (.return_, 1) := by decide +kernel
theorem dX4_shared_0 : decode cX4_shared 0 = .ok (.aload_n 0, 1) := by decide +kernel
theorem dX4_shared_1 : decode cX4_shared 1 = .ok (.getfield 22, 3) := by decide +kernel
theorem dX4_shared_4 : decode cX4_shared 4 = .ok (.invokestatic 139, 3) := by decide +kernel
theorem dX4_shared_7 : decode cX4_shared 7 = .ok (.ifCond .ne 13, 3) := by decide +kernel
theorem dX4_shared_10 : decode cX4_shared 10 = .ok (.aload_n 0, 1) := by decide +kernel
theorem dX4_shared_11 : decode cX4_shared 11 = .ok (.getfield 25, 3) := by decide +kernel
theorem dX4_shared_14 : decode cX4_shared 14 = .ok (.invokestatic 139, 3) := by decide +kernel
theorem dX4_shared_17 : decode cX4_shared 17 = .ok (.ifCond .eq 40, 3) := by decide +kernel
theorem dX4_shared_20 : decode cX4_shared 20 = .ok (.aload_n 0, 1) := by decide +kernel
theorem dX4_shared_21 : decode cX4_shared 21 = .ok (.getfield 31, 3) := by decide +kernel
theorem dX4_shared_24 : decode cX4_shared 24 = .ok (.aload_n 0, 1) := by decide +kernel
theorem dX4_shared_25 : decode cX4_shared 25 = .ok (.getfield 22, 3) := by decide +kernel
theorem dX4_shared_28 : decode cX4_shared 28 = .ok (.invokestatic 139, 3) := by decide +kernel
theorem dX4_shared_31 : decode cX4_shared 31 = .ok (.ifCond .eq 10, 3) := by decide +kernel
theorem dX4_shared_34 : decode cX4_shared 34 = .ok (.aload_n 0, 1) := by decide +kernel
theorem dX4_shared_35 : decode cX4_shared 35 = .ok (.getfield 25, 3) := by decide +kernel
theorem dX4_shared_38 : decode cX4_shared 38 = .ok (.goto 7, 3) := by decide +kernel
theorem dX4_shared_41 : decode cX4_shared 41 = .ok (.aload_n 0, 1) := by decide +kernel
theorem dX4_shared_42 : decode cX4_shared 42 = .ok (.getfield 22, 3) := by decide +kernel
theorem dX4_shared_45 : decode cX4_shared 45 = .ok (.invokestatic 143, 3) := by decide +kernel
theorem dX4_shared_48 : decode cX4_shared 48 = .ok (.aload_n 0, 1) := by decide +kernel
theorem dX4_shared_49 : decode cX4_shared 49 = .ok (.aload_n 0, 1) := by decide +kernel
theorem dX4_shared_50 : decode cX4_shared 50 = .ok (.getfield 31, 3) := by decide +kernel
theorem dX4_shared_53 : decode cX4_shared 53 = .ok (.invokevirtual 167, 3) := by decide +kernel
theorem dX4_shared_56 : decode cX4_shared 56 = .ok (.return_, 1) := by decide +kernel
theorem dX4_shared_57 : decode cX4_shared 57 = .ok (.aload_n 0, 1) := by decide +kernel
theorem dX4_shared_58 : decode cX4_shared 58 = .ok (.getfield 37, 3) := by decide +kernel
theorem dX4_shared_61 : decode cX4_shared 61 = .ok (.aload_n 0, 1) := by decide +kernel
theorem dX4_shared_62 : decode cX4_shared 62 = .ok (.getfield 22, 3) := by decide +kernel
theorem dX4_shared_65 : decode cX4_shared 65 = .ok (.invokestatic 143, 3) := by decide +kernel
theorem dX4_shared_68 : decode cX4_shared 68 = .ok (.aload_n 0, 1) := by decide +kernel
theorem dX4_shared_69 : decode cX4_shared 69 = .ok (.getfield 40, 3) := by decide +kernel
theorem dX4_shared_72 : decode cX4_shared 72 = .ok (.aload_n 0, 1) := by decide +kernel
theorem dX4_shared_73 : decode cX4_shared 73 = .ok (.getfield 25, 3) := by decide +kernel
theorem dX4_shared_76 : decode cX4_shared 76 = .ok (.invokestatic 143, 3) := by decide +kernel
theorem dX4_shared_79 : decode cX4_shared 79 = .ok (.aload_n 0, 1) := by decide +kernel
theorem dX4_shared_80 : decode cX4_shared 80 = .ok (.invokevirtual 97, 3) := by decide +kernel
theorem dX4_shared_83 : decode cX4_shared 83 = .ok (.pop, 1) := by decide +kernel
theorem dX4_shared_84 : decode cX4_shared 84 = .ok (.aload_n 0, 1) := by decide +kernel
theorem dX4_shared_85 : decode cX4_shared 85 = .ok (.getfield 34, 3) := by decide +kernel
theorem dX4_shared_88 : decode cX4_shared 88 = .ok (.aload_n 0, 1) := by decide +kernel
theorem dX4_shared_89 : decode cX4_shared 89 = .ok (.getfield 37, 3) := by decide +kernel
theorem dX4_shared_92 : decode cX4_shared 92 = .ok (.invokestatic 143, 3) := by decide +kernel
theorem dX4_shared_95 : decode cX4_shared 95 = .ok (.aload_n 0, 1) := by decide +kernel
theorem dX4_shared_96 : decode cX4_shared 96 = .ok (.getfield 37, 3) := by decide +kernel
theorem dX4_shared_99 : decode cX4_shared 99 = .ok (.aload_n 0, 1) := by decide +kernel
theorem dX4_shared_100 : decode cX4_shared 100 = .ok (.getfield 22, 3) := by decide +kernel
theorem dX4_shared_103 : decode cX4_shared 103 = .ok (.invokestatic 143, 3) := by decide +kernel
theorem dX4_shared_106 : decode cX4_shared 106 = .ok (.aload_n 0, 1) := by decide +kernel
theorem dX4_shared_107 : decode cX4_shared 107 = .ok (.aload_n 0, 1) := by decide +kernel
theorem dX4_shared_108 : decode cX4_shared 108 = .ok (.getfield 34, 3) := by decide +kernel
theorem dX4_shared_111 : decode cX4_shared 111 = .ok (.invokevirtual 170, 3) := by decide +kernel
theorem dX4_shared_114 : decode cX4_shared 114 = .ok (.aload_n 0, 1) := by decide +kernel
theorem dX4_shared_115 : decode cX4_shared 115 = .ok (.getfield 31, 3) := by decide +kernel
theorem dX4_shared_118 : decode cX4_shared 118 = .ok (.aload_n 0, 1) := by decide +kernel
theorem dX4_shared_119 : decode cX4_shared 119 = .ok (.getfield 37, 3) := by decide +kernel
theorem dX4_shared_122 : decode cX4_shared 122 = .ok (.invokestatic 143, 3) := by decide +kernel
theorem dX4_shared_125 : decode cX4_shared 125 = .ok (.aload_n 0, 1) := by decide +kernel
theorem dX4_shared_126 : decode cX4_shared 126 = .ok (.aload_n 0, 1) := by decide +kernel
theorem dX4_shared_127 : decode cX4_shared 127 = .ok (.getfield 31, 3) := by decide +kernel
theorem dX4_shared_130 : decode cX4_shared 130 = .ok (.invokevirtual 167, 3) := by decide +kernel
theorem dX4_shared_133 : decode cX4_shared 133 = .ok (.return_, 1) := by decide +kernel
theorem dX4_common_0 : decode cX4_common 0 = .ok (.aload_n 0, 1) := by decide +kernel
theorem dX4_common_1 : decode cX4_common 1 = .ok (.iload_n 1, 1) := by decide +kernel
theorem dX4_common_2 : decode cX4_common 2 = .ok (.iload_n 2, 1) := by decide +kernel
theorem dX4_common_3 : decode cX4_common 3 = .ok (.invokevirtual 115, 3) := by decide +kernel
theorem dX4_common_6 : decode cX4_common 6 = .ok (.ifCond .ne 5, 3) := by decide +kernel
theorem dX4_common_9 : decode cX4_common 9 = .ok (.iconst 0, 1) := by decide +kernel
theorem dX4_common_10 : decode cX4_common 10 = .ok (.ireturn, 1) := by decide +kernel
theorem dX4_common_11 : decode cX4_common 11 = .ok (.aload_n 0, 1) := by decide +kernel
theorem dX4_common_12 : decode cX4_common 12 = .ok (.aload_n 0, 1) := by decide +kernel
theorem dX4_common_13 : decode cX4_common 13 = .ok (.getfield 22, 3) := by decide +kernel
theorem dX4_common_16 : decode cX4_common 16 = .ok (.aload_n 0, 1) := by decide +kernel
theorem dX4_common_17 : decode cX4_common 17 = .ok (.getfield 7, 3) := by decide +kernel
theorem dX4_common_20 : decode cX4_common 20 = .ok (.iload_n 1, 1) := by decide +kernel
theorem dX4_common_21 : decode cX4_common 21 = .ok (.invokevirtual 125, 3) := by decide +kernel
theorem dX4_common_24 : decode cX4_common 24 = .ok (.aload_n 0, 1) := by decide +kernel
theorem dX4_common_25 : decode cX4_common 25 = .ok (.aload_n 0, 1) := by decide +kernel
theorem dX4_common_26 : decode cX4_common 26 = .ok (.getfield 25, 3) := by decide +kernel
theorem dX4_common_29 : decode cX4_common 29 = .ok (.aload_n 0, 1) := by decide +kernel
theorem dX4_common_30 : decode cX4_common 30 = .ok (.getfield 7, 3) := by decide +kernel
theorem dX4_common_33 : decode cX4_common 33 = .ok (.iload_n 2, 1) := by decide +kernel
theorem dX4_common_34 : decode cX4_common 34 = .ok (.invokevirtual 125, 3) := by decide +kernel
theorem dX4_common_37 : decode cX4_common 37 = .ok (.aload_n 0, 1) := by decide +kernel
theorem dX4_common_38 : decode cX4_common 38 = .ok (.invokevirtual 173, 3) := by decide +kernel
theorem dX4_common_41 : decode cX4_common 41 = .ok (.aload_n 0, 1) := by decide +kernel
theorem dX4_common_42 : decode cX4_common 42 = .ok (.getfield 37, 3) := by decide +kernel
theorem dX4_common_45 : decode cX4_common 45 = .ok (.aload_n 0, 1) := by decide +kernel
theorem dX4_common_46 : decode cX4_common 46 = .ok (.getfield 31, 3) := by decide +kernel
theorem dX4_common_49 : decode cX4_common 49 = .ok (.invokestatic 143, 3) := by decide +kernel
theorem dX4_common_52 : decode cX4_common 52 = .ok (.aload_n 0, 1) := by decide +kernel
theorem dX4_common_53 : decode cX4_common 53 = .ok (.aload_n 0, 1) := by decide +kernel
theorem dX4_common_54 : decode cX4_common 54 = .ok (.getfield 40, 3) := by decide +kernel
theorem dX4_common_57 : decode cX4_common 57 = .ok (.invokevirtual 112, 3) := by decide +kernel
theorem dX4_common_60 : decode cX4_common 60 = .ok (.aload_n 0, 1) := by decide +kernel
theorem dX4_common_61 : decode cX4_common 61 = .ok (.invokevirtual 104, 3) := by decide +kernel
theorem dX4_common_64 : decode cX4_common 64 = .ok (.ireturn, 1) := by decide +kernel
theorem dX4_bare_0 : decode cX4_bare 0 = .ok (.aload_n 0, 1) := by decide +kernel
theorem dX4_bare_1 : decode cX4_bare 1 = .ok (.getfield 25, 3) := by decide +kernel
theorem dX4_bare_4 : decode cX4_bare 4 = .ok (.invokestatic 68, 3) := by decide +kernel
theorem dX4_bare_7 : decode cX4_bare 7 = .ok (.aload_n 0, 1) := by decide +kernel
theorem dX4_bare_8 : decode cX4_bare 8 = .ok (.getfield 22, 3) := by decide +kernel
theorem dX4_bare_11 : decode cX4_bare 11 = .ok (.sipush 880, 3) := by decide +kernel
theorem dX4_bare_14 : decode cX4_bare 14 = .ok (.invokestatic 72, 3) := by decide +kernel
theorem dX4_bare_17 : decode cX4_bare 17 = .ok (.bipush 40, 2) := by decide +kernel
theorem dX4_bare_19 : decode cX4_bare 19 = .ok (.idiv, 1) := by decide +kernel
theorem dX4_bare_20 : decode cX4_bare 20 = .ok (.istore_n 1, 1) := by decide +kernel
theorem dX4_bare_21 : decode cX4_bare 21 = .ok (.iconst 0, 1) := by decide +kernel
theorem dX4_bare_22 : decode cX4_bare 22 = .ok (.istore_n 2, 1) := by decide +kernel
theorem dX4_bare_23 : decode cX4_bare 23 = .ok (.iload_n 2, 1) := by decide +kernel
theorem dX4_bare_24 : decode cX4_bare 24 = .ok (.iload_n 1, 1) := by decide +kernel
theorem dX4_bare_25 : decode cX4_bare 25 = .ok (.if_icmp .gt 84, 3) := by decide +kernel
theorem dX4_bare_28 : decode cX4_bare 28 = .ok (.aload_n 0, 1) := by decide +kernel
theorem dX4_bare_29 : decode cX4_bare 29 = .ok (.getfield 59, 3) := by decide +kernel
theorem dX4_bare_32 : decode cX4_bare 32 = .ok (.aload_n 0, 1) := by decide +kernel
theorem dX4_bare_33 : decode cX4_bare 33 = .ok (.getfield 22, 3) := by decide +kernel
theorem dX4_bare_36 : decode cX4_bare 36 = .ok (.invokestatic 143, 3) := by decide +kernel
theorem dX4_bare_39 : decode cX4_bare 39 = .ok (.aload_n 0, 1) := by decide +kernel
theorem dX4_bare_40 : decode cX4_bare 40 = .ok (.getfield 22, 3) := by decide +kernel
theorem dX4_bare_43 : decode cX4_bare 43 = .ok (.invokestatic 68, 3) := by decide +kernel
theorem dX4_bare_46 : decode cX4_bare 46 = .ok (.iconst 0, 1) := by decide +kernel
theorem dX4_bare_47 : decode cX4_bare 47 = .ok (.istore_n 3, 1) := by decide +kernel
theorem dX4_bare_48 : decode cX4_bare 48 = .ok (.iload_n 3, 1) := by decide +kernel
theorem dX4_bare_49 : decode cX4_bare 49 = .ok (.bipush 40, 2) := by decide +kernel
theorem dX4_bare_51 : decode cX4_bare 51 = .ok (.if_icmp .ge 26, 3) := by decide +kernel
theorem dX4_bare_54 : decode cX4_bare 54 = .ok (.aload_n 0, 1) := by decide +kernel
theorem dX4_bare_55 : decode cX4_bare 55 = .ok (.getfield 22, 3) := by decide +kernel
theorem dX4_bare_58 : decode cX4_bare 58 = .ok (.iload_n 3, 1) := by decide +kernel
theorem dX4_bare_59 : decode cX4_bare 59 = .ok (.aload_n 0, 1) := by decide +kernel
theorem dX4_bare_60 : decode cX4_bare 60 = .ok (.getfield 59, 3) := by decide +kernel
theorem dX4_bare_63 : decode cX4_bare 63 = .ok (.bipush 40, 2) := by decide +kernel
theorem dX4_bare_65 : decode cX4_bare 65 = .ok (.iload_n 2, 1) := by decide +kernel
theorem dX4_bare_66 : decode cX4_bare 66 = .ok (.imul, 1) := by decide +kernel
theorem dX4_bare_67 : decode cX4_bare 67 = .ok (.iload_n 3, 1) := by decide +kernel
theorem dX4_bare_68 : decode cX4_bare 68 = .ok (.iadd, 1) := by decide +kernel
theorem dX4_bare_69 : decode cX4_bare 69 = .ok (.iaload, 1) := by decide +kernel
theorem dX4_bare_70 : decode cX4_bare 70 = .ok (.iastore, 1) := by decide +kernel
theorem dX4_bare_71 : decode cX4_bare 71 = .ok (.iinc 3 1, 3) := by decide +kernel
theorem dX4_bare_74 : decode cX4_bare 74 = .ok (.goto (-26), 3) := by decide +kernel
theorem dX4_bare_77 : decode cX4_bare 77 = .ok (.aload_n 0, 1) := by decide +kernel
theorem dX4_bare_78 : decode cX4_bare 78 = .ok (.invokevirtual 173, 3) := by decide +kernel
theorem dX4_bare_81 : decode cX4_bare 81 = .ok (.aload_n 0, 1) := by decide +kernel
theorem dX4_bare_82 : decode cX4_bare 82 = .ok (.getfield 25, 3) := by decide +kernel
theorem dX4_bare_85 : decode cX4_bare 85 = .ok (.aload_n 0, 1) := by decide +kernel
theorem dX4_bare_86 : decode cX4_bare 86 = .ok (.getfield 31, 3) := by decide +kernel
theorem dX4_bare_89 : decode cX4_bare 89 = .ok (.invokestatic 143, 3) := by decide +kernel
theorem dX4_bare_92 : decode cX4_bare 92 = .ok (.aload_n 0, 1) := by decide +kernel
theorem dX4_bare_93 : decode cX4_bare 93 = .ok (.getfield 22, 3) := by decide +kernel
theorem dX4_bare_96 : decode cX4_bare 96 = .ok (.aload_n 0, 1) := by decide +kernel
theorem dX4_bare_97 : decode cX4_bare 97 = .ok (.getfield 59, 3) := by decide +kernel
theorem dX4_bare_100 : decode cX4_bare 100 = .ok (.invokestatic 143, 3) := by decide +kernel
theorem dX4_bare_103 : decode cX4_bare 103 = .ok (.iinc 2 1, 3) := by decide +kernel
theorem dX4_bare_106 : decode cX4_bare 106 = .ok (.goto (-83), 3) := by decide +kernel
theorem dX4_bare_109 : decode cX4_bare 109 = .ok (.aload_n 0, 1) := by decide +kernel
theorem dX4_bare_110 : decode cX4_bare 110 = .ok (.getfield 37, 3) := by decide +kernel
theorem dX4_bare_113 : decode cX4_bare 113 = .ok (.aload_n 0, 1) := by decide +kernel
theorem dX4_bare_114 : decode cX4_bare 114 = .ok (.getfield 22, 3) := by decide +kernel
theorem dX4_bare_117 : decode cX4_bare 117 = .ok (.invokestatic 143, 3) := by decide +kernel
theorem dX4_bare_120 : decode cX4_bare 120 = .ok (.aload_n 0, 1) := by decide +kernel
theorem dX4_bare_121 : decode cX4_bare 121 = .ok (.getfield 34, 3) := by decide +kernel
theorem dX4_bare_124 : decode cX4_bare 124 = .ok (.aload_n 0, 1) := by decide +kernel
theorem dX4_bare_125 : decode cX4_bare 125 = .ok (.getfield 25, 3) := by decide +kernel
theorem dX4_bare_128 : decode cX4_bare 128 = .ok (.invokestatic 143, 3) := by decide +kernel
theorem dX4_bare_131 : decode cX4_bare 131 = .ok (.aload_n 0, 1) := by decide +kernel
theorem dX4_bare_132 : decode cX4_bare 132 = .ok (.aload_n 0, 1) := by decide +kernel
theorem dX4_bare_133 : decode cX4_bare 133 = .ok (.getfield 34, 3) := by decide +kernel
theorem dX4_bare_136 : decode cX4_bare 136 = .ok (.invokevirtual 170, 3) := by decide +kernel
theorem dX4_bare_139 : decode cX4_bare 139 = .ok (.aload_n 0, 1) := by decide +kernel
theorem dX4_bare_140 : decode cX4_bare 140 = .ok (.getfield 22, 3) := by decide +kernel
theorem dX4_bare_143 : decode cX4_bare 143 = .ok (.aload_n 0, 1) := by decide +kernel
theorem dX4_bare_144 : decode cX4_bare 144 = .ok (.getfield 37, 3) := by decide +kernel
theorem dX4_bare_147 : decode cX4_bare 147 = .ok (.invokestatic 143, 3) := by decide +kernel
theorem dX4_bare_150 : decode cX4_bare 150 = .ok (.aload_n 0, 1) := by decide +kernel
theorem dX4_bare_151 : decode cX4_bare 151 = .ok (.getfield 25, 3) := by decide +kernel
theorem dX4_bare_154 : decode cX4_bare 154 = .ok (.aload_n 0, 1) := by decide +kernel
theorem dX4_bare_155 : decode cX4_bare 155 = .ok (.getfield 22, 3) := by decide +kernel
theorem dX4_bare_158 : decode cX4_bare 158 = .ok (.bipush 40, 2) := by decide +kernel
theorem dX4_bare_160 : decode cX4_bare 160 = .ok (.invokestatic 129, 3) := by decide +kernel
theorem dX4_bare_163 : decode cX4_bare 163 = .ok (.aload_n 0, 1) := by decide +kernel
theorem dX4_bare_164 : decode cX4_bare 164 = .ok (.getfield 25, 3) := by decide +kernel
theorem dX4_bare_167 : decode cX4_bare 167 = .ok (.invokestatic 139, 3) := by decide +kernel
theorem dX4_bare_170 : decode cX4_bare 170 = .ok (.ifCond .eq 12, 3) := by decide +kernel
theorem dX4_bare_173 : decode cX4_bare 173 = .ok (.aload_n 0, 1) := by decide +kernel
theorem dX4_bare_174 : decode cX4_bare 174 = .ok (.aload_n 0, 1) := by decide +kernel
theorem dX4_bare_175 : decode cX4_bare 175 = .ok (.getfield 22, 3) := by decide +kernel
theorem dX4_bare_178 : decode cX4_bare 178 = .ok (.invokevirtual 112, 3) := by decide +kernel
theorem dX4_bare_181 : decode cX4_bare 181 = .ok (.return_, 1) := by decide +kernel
theorem dX4_bare_182 : decode cX4_bare 182 = .ok (.aload_n 0, 1) := by decide +kernel
theorem dX4_bare_183 : decode cX4_bare 183 = .ok (.getfield 37, 3) := by decide +kernel
theorem dX4_bare_186 : decode cX4_bare 186 = .ok (.aload_n 0, 1) := by decide +kernel
theorem dX4_bare_187 : decode cX4_bare 187 = .ok (.getfield 22, 3) := by decide +kernel
theorem dX4_bare_190 : decode cX4_bare 190 = .ok (.invokestatic 143, 3) := by decide +kernel
theorem dX4_bare_193 : decode cX4_bare 193 = .ok (.aload_n 0, 1) := by decide +kernel
theorem dX4_bare_194 : decode cX4_bare 194 = .ok (.getfield 40, 3) := by decide +kernel
theorem dX4_bare_197 : decode cX4_bare 197 = .ok (.aload_n 0, 1) := by decide +kernel
theorem dX4_bare_198 : decode cX4_bare 198 = .ok (.getfield 25, 3) := by decide +kernel
theorem dX4_bare_201 : decode cX4_bare 201 = .ok (.invokestatic 143, 3) := by decide +kernel
theorem dX4_bare_204 : decode cX4_bare 204 = .ok (.aload_n 0, 1) := by decide +kernel
theorem dX4_bare_205 : decode cX4_bare 205 = .ok (.invokevirtual 97, 3) := by decide +kernel
theorem dX4_bare_208 : decode cX4_bare 208 = .ok (.pop, 1) := by decide +kernel
theorem dX4_bare_209 : decode cX4_bare 209 = .ok (.aload_n 0, 1) := by decide +kernel
theorem dX4_bare_210 : decode cX4_bare 210 = .ok (.getfield 22, 3) := by decide +kernel
theorem dX4_bare_213 : decode cX4_bare 213 = .ok (.aload_n 0, 1) := by decide +kernel
theorem dX4_bare_214 : decode cX4_bare 214 = .ok (.getfield 37, 3) := by decide +kernel
theorem dX4_bare_217 : decode cX4_bare 217 = .ok (.invokestatic 143, 3) := by decide +kernel
theorem dX4_bare_220 : decode cX4_bare 220 = .ok (.aload_n 0, 1) := by decide +kernel
theorem dX4_bare_221 : decode cX4_bare 221 = .ok (.aload_n 0, 1) := by decide +kernel
theorem dX4_bare_222 : decode cX4_bare 222 = .ok (.getfield 22, 3) := by decide +kernel
theorem dX4_bare_225 : decode cX4_bare 225 = .ok (.invokevirtual 167, 3) := by decide +kernel
theorem dX4_bare_228 : decode cX4_bare 228 = .ok (.return_, 1) := by decide +kernel
theorem dX4_part_0 : decode cX4_part 0 = .ok (.aload_n 0, 1) := by decide +kernel
theorem dX4_part_1 : decode cX4_part 1 = .ok (.iload_n 1, 1) := by decide +kernel
theorem dX4_part_2 : decode cX4_part 2 = .ok (.iload_n 1, 1) := by decide +kernel
theorem dX4_part_3 : decode cX4_part 3 = .ok (.invokevirtual 115, 3) := by decide +kernel
theorem dX4_part_6 : decode cX4_part 6 = .ok (.ifCond .ne 5, 3) := by decide +kernel
theorem dX4_part_9 : decode cX4_part 9 = .ok (.iconst 0, 1) := by decide +kernel
theorem dX4_part_10 : decode cX4_part 10 = .ok (.ireturn, 1) := by decide +kernel
theorem dX4_part_11 : decode cX4_part 11 = .ok (.iload_n 2, 1) := by decide +kernel
theorem dX4_part_12 : decode cX4_part 12 = .ok (.ifCond .lt 8, 3) := by decide +kernel
theorem dX4_part_15 : decode cX4_part 15 = .ok (.iload_n 2, 1) := by decide +kernel
theorem dX4_part_16 : decode cX4_part 16 = .ok (.iconst 4, 1) := by decide +kernel
theorem dX4_part_17 : decode cX4_part 17 = .ok (.if_icmp .le 9, 3) := by decide +kernel
theorem dX4_part_20 : decode cX4_part 20 = .ok (.aload_n 0, 1) := by decide +kernel
theorem dX4_part_21 : decode cX4_part 21 = .ok (.iconst 3, 1) := by decide +kernel
theorem dX4_part_22 : decode cX4_part 22 = .ok (.invokevirtual 101, 3) := by decide +kernel
theorem dX4_part_25 : decode cX4_part 25 = .ok (.ireturn, 1) := by decide +kernel
theorem dX4_part_26 : decode cX4_part 26 = .ok (.aload_n 0, 1) := by decide +kernel
theorem dX4_part_27 : decode cX4_part 27 = .ok (.aload_n 0, 1) := by decide +kernel
theorem dX4_part_28 : decode cX4_part 28 = .ok (.getfield 22, 3) := by decide +kernel
theorem dX4_part_31 : decode cX4_part 31 = .ok (.iload_n 2, 1) := by decide +kernel
theorem dX4_part_32 : decode cX4_part 32 = .ok (.ifCond .ne 10, 3) := by decide +kernel
theorem dX4_part_35 : decode cX4_part 35 = .ok (.aload_n 0, 1) := by decide +kernel
theorem dX4_part_36 : decode cX4_part 36 = .ok (.getfield 7, 3) := by decide +kernel
theorem dX4_part_39 : decode cX4_part 39 = .ok (.goto 7, 3) := by decide +kernel
theorem dX4_part_42 : decode cX4_part 42 = .ok (.aload_n 0, 1) := by decide +kernel
theorem dX4_part_43 : decode cX4_part 43 = .ok (.getfield 13, 3) := by decide +kernel
theorem dX4_part_46 : decode cX4_part 46 = .ok (.iload_n 1, 1) := by decide +kernel
theorem dX4_part_47 : decode cX4_part 47 = .ok (.invokevirtual 125, 3) := by decide +kernel
theorem dX4_part_50 : decode cX4_part 50 = .ok (.iload_n 2, 1) := by decide +kernel
theorem dX4_part_51 : decode cX4_part 51 = .ok (.iconst 1, 1) := by decide +kernel
theorem dX4_part_52 : decode cX4_part 52 = .ok (.if_icmp .le 7, 3) := by decide +kernel
theorem dX4_part_55 : decode cX4_part 55 = .ok (.aload_n 0, 1) := by decide +kernel
theorem dX4_part_56 : decode cX4_part 56 = .ok (.invokevirtual 176, 3) := by decide +kernel
theorem dX4_part_59 : decode cX4_part 59 = .ok (.aload_n 0, 1) := by decide +kernel
theorem dX4_part_60 : decode cX4_part 60 = .ok (.getfield 119, 3) := by decide +kernel
theorem dX4_part_63 : decode cX4_part 63 = .ok (.iconst 2, 1) := by decide +kernel
theorem dX4_part_64 : decode cX4_part 64 = .ok (.if_icmp .ne 12, 3) := by decide +kernel
theorem dX4_part_67 : decode cX4_part 67 = .ok (.iload_n 2, 1) := by decide +kernel
theorem dX4_part_68 : decode cX4_part 68 = .ok (.iconst 1, 1) := by decide +kernel
theorem dX4_part_69 : decode cX4_part 69 = .ok (.if_icmp .le 7, 3) := by decide +kernel
theorem dX4_part_72 : decode cX4_part 72 = .ok (.iconst 1, 1) := by decide +kernel
theorem dX4_part_73 : decode cX4_part 73 = .ok (.goto 4, 3) := by decide +kernel
theorem dX4_part_76 : decode cX4_part 76 = .ok (.iconst 0, 1) := by decide +kernel
theorem dX4_part_77 : decode cX4_part 77 = .ok (.istore_n 3, 1) := by decide +kernel
theorem dX4_part_78 : decode cX4_part 78 = .ok (.iconst 0, 1) := by decide +kernel
theorem dX4_part_79 : decode cX4_part 79 = .ok (.istore 4, 2) := by decide +kernel
theorem dX4_part_81 : decode cX4_part 81 = .ok (.iload 4, 2) := by decide +kernel
theorem dX4_part_83 : decode cX4_part 83 = .ok (.bipush 40, 2) := by decide +kernel
theorem dX4_part_85 : decode cX4_part 85 = .ok (.if_icmp .ge 29, 3) := by decide +kernel
theorem dX4_part_88 : decode cX4_part 88 = .ok (.iload_n 3, 1) := by decide +kernel
theorem dX4_part_89 : decode cX4_part 89 = .ok (.ifCond .eq 25, 3) := by decide +kernel
theorem dX4_part_92 : decode cX4_part 92 = .ok (.aload_n 0, 1) := by decide +kernel
theorem dX4_part_93 : decode cX4_part 93 = .ok (.getfield 22, 3) := by decide +kernel
theorem dX4_part_96 : decode cX4_part 96 = .ok (.iload 4, 2) := by decide +kernel
theorem dX4_part_98 : decode cX4_part 98 = .ok (.iaload, 1) := by decide +kernel
theorem dX4_part_99 : decode cX4_part 99 = .ok (.ifCond .ne 7, 3) := by decide +kernel
theorem dX4_part_102 : decode cX4_part 102 = .ok (.iconst 1, 1) := by decide +kernel
theorem dX4_part_103 : decode cX4_part 103 = .ok (.goto 4, 3) := by decide +kernel
theorem dX4_part_106 : decode cX4_part 106 = .ok (.iconst 0, 1) := by decide +kernel
theorem dX4_part_107 : decode cX4_part 107 = .ok (.istore_n 3, 1) := by decide +kernel
theorem dX4_part_108 : decode cX4_part 108 = .ok (.iinc 4 1, 3) := by decide +kernel
theorem dX4_part_111 : decode cX4_part 111 = .ok (.goto (-30), 3) := by decide +kernel
theorem dX4_part_114 : decode cX4_part 114 = .ok (.iload_n 2, 1) := by decide +kernel
theorem dX4_part_115 : decode cX4_part 115 = .ok (.iconst 3, 1) := by decide +kernel
theorem dX4_part_116 : decode cX4_part 116 = .ok (.if_icmp .ne 56, 3) := by decide +kernel
theorem dX4_part_119 : decode cX4_part 119 = .ok (.iload_n 3, 1) := by decide +kernel
theorem dX4_part_120 : decode cX4_part 120 = .ok (.ifCond .eq 52, 3) := by decide +kernel
theorem dX4_part_123 : decode cX4_part 123 = .ok (.iconst 0, 1) := by decide +kernel
theorem dX4_part_124 : decode cX4_part 124 = .ok (.istore 4, 2) := by decide +kernel
theorem dX4_part_126 : decode cX4_part 126 = .ok (.iload 4, 2) := by decide +kernel
theorem dX4_part_128 : decode cX4_part 128 = .ok (.sipush 880, 3) := by decide +kernel
theorem dX4_part_131 : decode cX4_part 131 = .ok (.if_icmp .ge 41, 3) := by decide +kernel
theorem dX4_part_134 : decode cX4_part 134 = .ok (.aload_n 0, 1) := by decide +kernel
theorem dX4_part_135 : decode cX4_part 135 = .ok (.getfield 22, 3) := by decide +kernel
theorem dX4_part_138 : decode cX4_part 138 = .ok (.iload 4, 2) := by decide +kernel
theorem dX4_part_140 : decode cX4_part 140 = .ok (.iload 4, 2) := by decide +kernel
theorem dX4_part_142 : decode cX4_part 142 = .ok (.bipush 40, 2) := by decide +kernel
theorem dX4_part_144 : decode cX4_part 144 = .ok (.iadd, 1) := by decide +kernel
theorem dX4_part_145 : decode cX4_part 145 = .ok (.sipush 880, 3) := by decide +kernel
theorem dX4_part_148 : decode cX4_part 148 = .ok (.if_icmp .ge 16, 3) := by decide +kernel
theorem dX4_part_151 : decode cX4_part 151 = .ok (.aload_n 0, 1) := by decide +kernel
theorem dX4_part_152 : decode cX4_part 152 = .ok (.getfield 22, 3) := by decide +kernel
theorem dX4_part_155 : decode cX4_part 155 = .ok (.iload 4, 2) := by decide +kernel
theorem dX4_part_157 : decode cX4_part 157 = .ok (.bipush 40, 2) := by decide +kernel
theorem dX4_part_159 : decode cX4_part 159 = .ok (.iadd, 1) := by decide +kernel
theorem dX4_part_160 : decode cX4_part 160 = .ok (.iaload, 1) := by decide +kernel
theorem dX4_part_161 : decode cX4_part 161 = .ok (.goto 4, 3) := by decide +kernel
theorem dX4_part_164 : decode cX4_part 164 = .ok (.iconst 0, 1) := by decide +kernel
theorem dX4_part_165 : decode cX4_part 165 = .ok (.iastore, 1) := by decide +kernel
theorem dX4_part_166 : decode cX4_part 166 = .ok (.iinc 4 1, 3) := by decide +kernel
theorem dX4_part_169 : decode cX4_part 169 = .ok (.goto (-43), 3) := by decide +kernel
theorem dX4_part_172 : decode cX4_part 172 = .ok (.iload_n 2, 1) := by decide +kernel
theorem dX4_part_173 : decode cX4_part 173 = .ok (.iconst 4, 1) := by decide +kernel
theorem dX4_part_174 : decode cX4_part 174 = .ok (.if_icmp .ne 30, 3) := by decide +kernel
theorem dX4_part_177 : decode cX4_part 177 = .ok (.aload_n 0, 1) := by decide +kernel
theorem dX4_part_178 : decode cX4_part 178 = .ok (.aload_n 0, 1) := by decide +kernel
theorem dX4_part_179 : decode cX4_part 179 = .ok (.getfield 22, 3) := by decide +kernel
theorem dX4_part_182 : decode cX4_part 182 = .ok (.invokevirtual 112, 3) := by decide +kernel
theorem dX4_part_185 : decode cX4_part 185 = .ok (.iload_n 3, 1) := by decide +kernel
theorem dX4_part_186 : decode cX4_part 186 = .ok (.ifCond .eq 18, 3) := by decide +kernel
theorem dX4_part_189 : decode cX4_part 189 = .ok (.aload_n 0, 1) := by decide +kernel
theorem dX4_part_190 : decode cX4_part 190 = .ok (.getfield 22, 3) := by decide +kernel
theorem dX4_part_193 : decode cX4_part 193 = .ok (.invokestatic 68, 3) := by decide +kernel
theorem dX4_part_196 : decode cX4_part 196 = .ok (.aload_n 0, 1) := by decide +kernel
theorem dX4_part_197 : decode cX4_part 197 = .ok (.getfield 22, 3) := by decide +kernel
theorem dX4_part_200 : decode cX4_part 200 = .ok (.bipush 40, 2) := by decide +kernel
theorem dX4_part_202 : decode cX4_part 202 = .ok (.iconst 1, 1) := by decide +kernel
theorem dX4_part_203 : decode cX4_part 203 = .ok (.iastore, 1) := by decide +kernel
theorem dX4_part_204 : decode cX4_part 204 = .ok (.aload_n 0, 1) := by decide +kernel
theorem dX4_part_205 : decode cX4_part 205 = .ok (.getfield 37, 3) := by decide +kernel
theorem dX4_part_208 : decode cX4_part 208 = .ok (.aload_n 0, 1) := by decide +kernel
theorem dX4_part_209 : decode cX4_part 209 = .ok (.getfield 22, 3) := by decide +kernel
theorem dX4_part_212 : decode cX4_part 212 = .ok (.invokestatic 143, 3) := by decide +kernel
theorem dX4_part_215 : decode cX4_part 215 = .ok (.aload_n 0, 1) := by decide +kernel
theorem dX4_part_216 : decode cX4_part 216 = .ok (.aload_n 0, 1) := by decide +kernel
theorem dX4_part_217 : decode cX4_part 217 = .ok (.getfield 40, 3) := by decide +kernel
theorem dX4_part_220 : decode cX4_part 220 = .ok (.invokevirtual 112, 3) := by decide +kernel
theorem dX4_part_223 : decode cX4_part 223 = .ok (.aload_n 0, 1) := by decide +kernel
theorem dX4_part_224 : decode cX4_part 224 = .ok (.invokevirtual 104, 3) := by decide +kernel
theorem dX4_part_227 : decode cX4_part 227 = .ok (.ireturn, 1) := by decide +kernel
theorem dX4_same_0 : decode cX4_same 0 = .ok (.aload_n 0, 1) := by decide +kernel
theorem dX4_same_1 : decode cX4_same 1 = .ok (.aload_n 0, 1) := by decide +kernel
theorem dX4_same_2 : decode cX4_same 2 = .ok (.iload_n 1, 1) := by decide +kernel
theorem dX4_same_3 : decode cX4_same 3 = .ok (.invokevirtual 108, 3) := by decide +kernel
theorem dX4_same_6 : decode cX4_same 6 = .ok (.ifCond .eq 15, 3) := by decide +kernel
theorem dX4_same_9 : decode cX4_same 9 = .ok (.aload_n 0, 1) := by decide +kernel
theorem dX4_same_10 : decode cX4_same 10 = .ok (.iload_n 2, 1) := by decide +kernel
theorem dX4_same_11 : decode cX4_same 11 = .ok (.invokevirtual 108, 3) := by decide +kernel
theorem dX4_same_14 : decode cX4_same 14 = .ok (.ifCond .eq 7, 3) := by decide +kernel
theorem dX4_same_17 : decode cX4_same 17 = .ok (.iconst 0, 1) := by decide +kernel
theorem dX4_same_18 : decode cX4_same 18 = .ok (.goto 4, 3) := by decide +kernel
theorem dX4_same_21 : decode cX4_same 21 = .ok (.iconst 1, 1) := by decide +kernel
theorem dX4_same_22 : decode cX4_same 22 = .ok (.putfield 62, 3) := by decide +kernel
theorem dX4_same_25 : decode cX4_same 25 = .ok (.aload_n 0, 1) := by decide +kernel
theorem dX4_same_26 : decode cX4_same 26 = .ok (.getfield 62, 3) := by decide +kernel
theorem dX4_same_29 : decode cX4_same 29 = .ok (.ifCond .ne 7, 3) := by decide +kernel
theorem dX4_same_32 : decode cX4_same 32 = .ok (.iconst 1, 1) := by decide +kernel
theorem dX4_same_33 : decode cX4_same 33 = .ok (.goto 4, 3) := by decide +kernel
theorem dX4_same_36 : decode cX4_same 36 = .ok (.iconst 0, 1) := by decide +kernel
theorem dX4_same_37 : decode cX4_same 37 = .ok (.istore_n 3, 1) := by decide +kernel
theorem dX4_same_38 : decode cX4_same 38 = .ok (.iconst 0, 1) := by decide +kernel
theorem dX4_same_39 : decode cX4_same 39 = .ok (.istore 4, 2) := by decide +kernel
theorem dX4_same_41 : decode cX4_same 41 = .ok (.iload 4, 2) := by decide +kernel
theorem dX4_same_43 : decode cX4_same 43 = .ok (.bipush 49, 2) := by decide +kernel
theorem dX4_same_45 : decode cX4_same 45 = .ok (.if_icmp .ge 73, 3) := by decide +kernel
theorem dX4_same_48 : decode cX4_same 48 = .ok (.iload_n 3, 1) := by decide +kernel
theorem dX4_same_49 : decode cX4_same 49 = .ok (.ifCond .eq 69, 3) := by decide +kernel
theorem dX4_same_52 : decode cX4_same 52 = .ok (.aload_n 0, 1) := by decide +kernel
theorem dX4_same_53 : decode cX4_same 53 = .ok (.getfield 7, 3) := by decide +kernel
theorem dX4_same_56 : decode cX4_same 56 = .ok (.bipush 49, 2) := by decide +kernel
theorem dX4_same_58 : decode cX4_same 58 = .ok (.iload_n 1, 1) := by decide +kernel
theorem dX4_same_59 : decode cX4_same 59 = .ok (.imul, 1) := by decide +kernel
theorem dX4_same_60 : decode cX4_same 60 = .ok (.iload 4, 2) := by decide +kernel
theorem dX4_same_62 : decode cX4_same 62 = .ok (.iadd, 1) := by decide +kernel
theorem dX4_same_63 : decode cX4_same 63 = .ok (.iaload, 1) := by decide +kernel
theorem dX4_same_64 : decode cX4_same 64 = .ok (.aload_n 0, 1) := by decide +kernel
theorem dX4_same_65 : decode cX4_same 65 = .ok (.getfield 7, 3) := by decide +kernel
theorem dX4_same_68 : decode cX4_same 68 = .ok (.bipush 49, 2) := by decide +kernel
theorem dX4_same_70 : decode cX4_same 70 = .ok (.iload_n 2, 1) := by decide +kernel
theorem dX4_same_71 : decode cX4_same 71 = .ok (.imul, 1) := by decide +kernel
theorem dX4_same_72 : decode cX4_same 72 = .ok (.iload 4, 2) := by decide +kernel
theorem dX4_same_74 : decode cX4_same 74 = .ok (.iadd, 1) := by decide +kernel
theorem dX4_same_75 : decode cX4_same 75 = .ok (.iaload, 1) := by decide +kernel
theorem dX4_same_76 : decode cX4_same 76 = .ok (.if_icmp .ne 34, 3) := by decide +kernel
theorem dX4_same_79 : decode cX4_same 79 = .ok (.aload_n 0, 1) := by decide +kernel
theorem dX4_same_80 : decode cX4_same 80 = .ok (.getfield 13, 3) := by decide +kernel
theorem dX4_same_83 : decode cX4_same 83 = .ok (.bipush 49, 2) := by decide +kernel
theorem dX4_same_85 : decode cX4_same 85 = .ok (.iload_n 1, 1) := by decide +kernel
theorem dX4_same_86 : decode cX4_same 86 = .ok (.imul, 1) := by decide +kernel
theorem dX4_same_87 : decode cX4_same 87 = .ok (.iload 4, 2) := by decide +kernel
theorem dX4_same_89 : decode cX4_same 89 = .ok (.iadd, 1) := by decide +kernel
theorem dX4_same_90 : decode cX4_same 90 = .ok (.iaload, 1) := by decide +kernel
theorem dX4_same_91 : decode cX4_same 91 = .ok (.aload_n 0, 1) := by decide +kernel
theorem dX4_same_92 : decode cX4_same 92 = .ok (.getfield 13, 3) := by decide +kernel
theorem dX4_same_95 : decode cX4_same 95 = .ok (.bipush 49, 2) := by decide +kernel
theorem dX4_same_97 : decode cX4_same 97 = .ok (.iload_n 2, 1) := by decide +kernel
theorem dX4_same_98 : decode cX4_same 98 = .ok (.imul, 1) := by decide +kernel
theorem dX4_same_99 : decode cX4_same 99 = .ok (.iload 4, 2) := by decide +kernel
theorem dX4_same_101 : decode cX4_same 101 = .ok (.iadd, 1) := by decide +kernel
theorem dX4_same_102 : decode cX4_same 102 = .ok (.iaload, 1) := by decide +kernel
theorem dX4_same_103 : decode cX4_same 103 = .ok (.if_icmp .ne 7, 3) := by decide +kernel
theorem dX4_same_106 : decode cX4_same 106 = .ok (.iconst 1, 1) := by decide +kernel
theorem dX4_same_107 : decode cX4_same 107 = .ok (.goto 4, 3) := by decide +kernel
theorem dX4_same_110 : decode cX4_same 110 = .ok (.iconst 0, 1) := by decide +kernel
theorem dX4_same_111 : decode cX4_same 111 = .ok (.istore_n 3, 1) := by decide +kernel
theorem dX4_same_112 : decode cX4_same 112 = .ok (.iinc 4 1, 3) := by decide +kernel
theorem dX4_same_115 : decode cX4_same 115 = .ok (.goto (-74), 3) := by decide +kernel
theorem dX4_same_118 : decode cX4_same 118 = .ok (.iload_n 3, 1) := by decide +kernel
theorem dX4_same_119 : decode cX4_same 119 = .ok (.ireturn, 1) := by decide +kernel
theorem dX4_constant_0 : decode cX4_constant 0 = .ok (.aload_n 0, 1) := by decide +kernel
theorem dX4_constant_1 : decode cX4_constant 1 = .ok (.aload_n 0, 1) := by decide +kernel
theorem dX4_constant_2 : decode cX4_constant 2 = .ok (.iload_n 1, 1) := by decide +kernel
theorem dX4_constant_3 : decode cX4_constant 3 = .ok (.invokevirtual 108, 3) := by decide +kernel
theorem dX4_constant_6 : decode cX4_constant 6 = .ok (.ifCond .eq 7, 3) := by decide +kernel
theorem dX4_constant_9 : decode cX4_constant 9 = .ok (.iconst 0, 1) := by decide +kernel
theorem dX4_constant_10 : decode cX4_constant 10 = .ok (.goto 4, 3) := by decide +kernel
theorem dX4_constant_13 : decode cX4_constant 13 = .ok (.iconst 1, 1) := by decide +kernel
theorem dX4_constant_14 : decode cX4_constant 14 = .ok (.putfield 62, 3) := by decide +kernel
theorem dX4_constant_17 : decode cX4_constant 17 = .ok (.aload_n 0, 1) := by decide +kernel
theorem dX4_constant_18 : decode cX4_constant 18 = .ok (.getfield 62, 3) := by decide +kernel
theorem dX4_constant_21 : decode cX4_constant 21 = .ok (.ifCond .le 5, 3) := by decide +kernel
theorem dX4_constant_24 : decode cX4_constant 24 = .ok (.iconst 0, 1) := by decide +kernel
theorem dX4_constant_25 : decode cX4_constant 25 = .ok (.ireturn, 1) := by decide +kernel
theorem dX4_constant_26 : decode cX4_constant 26 = .ok (.aload_n 0, 1) := by decide +kernel
theorem dX4_constant_27 : decode cX4_constant 27 = .ok (.iload_n 1, 1) := by decide +kernel
theorem dX4_constant_28 : decode cX4_constant 28 = .ok (.invokevirtual 160, 3) := by decide +kernel
theorem dX4_constant_31 : decode cX4_constant 31 = .ok (.aload_n 0, 1) := by decide +kernel
theorem dX4_constant_32 : decode cX4_constant 32 = .ok (.getfield 37, 3) := by decide +kernel
theorem dX4_constant_35 : decode cX4_constant 35 = .ok (.invokestatic 139, 3) := by decide +kernel
theorem dX4_constant_38 : decode cX4_constant 38 = .ok (.ireturn, 1) := by decide +kernel
theorem dX4_low_0 : decode cX4_low 0 = .ok (.aload_n 0, 1) := by decide +kernel
theorem dX4_low_1 : decode cX4_low 1 = .ok (.aload_n 0, 1) := by decide +kernel
theorem dX4_low_2 : decode cX4_low 2 = .ok (.iload_n 1, 1) := by decide +kernel
theorem dX4_low_3 : decode cX4_low 3 = .ok (.invokevirtual 108, 3) := by decide +kernel
theorem dX4_low_6 : decode cX4_low 6 = .ok (.ifCond .eq 7, 3) := by decide +kernel
theorem dX4_low_9 : decode cX4_low 9 = .ok (.iconst 0, 1) := by decide +kernel
theorem dX4_low_10 : decode cX4_low 10 = .ok (.goto 4, 3) := by decide +kernel
theorem dX4_low_13 : decode cX4_low 13 = .ok (.iconst 1, 1) := by decide +kernel
theorem dX4_low_14 : decode cX4_low 14 = .ok (.putfield 62, 3) := by decide +kernel
theorem dX4_low_17 : decode cX4_low 17 = .ok (.aload_n 0, 1) := by decide +kernel
theorem dX4_low_18 : decode cX4_low 18 = .ok (.getfield 62, 3) := by decide +kernel
theorem dX4_low_21 : decode cX4_low 21 = .ok (.ifCond .ne 15, 3) := by decide +kernel
theorem dX4_low_24 : decode cX4_low 24 = .ok (.aload_n 0, 1) := by decide +kernel
theorem dX4_low_25 : decode cX4_low 25 = .ok (.iload_n 1, 1) := by decide +kernel
theorem dX4_low_26 : decode cX4_low 26 = .ok (.invokevirtual 122, 3) := by decide +kernel
theorem dX4_low_29 : decode cX4_low 29 = .ok (.ifCond .eq 7, 3) := by decide +kernel
theorem dX4_low_32 : decode cX4_low 32 = .ok (.iconst 1, 1) := by decide +kernel
theorem dX4_low_33 : decode cX4_low 33 = .ok (.goto 4, 3) := by decide +kernel
theorem dX4_low_36 : decode cX4_low 36 = .ok (.iconst 0, 1) := by decide +kernel
theorem dX4_low_37 : decode cX4_low 37 = .ok (.ireturn, 1) := by decide +kernel
theorem dX4_at_0 : decode cX4_at 0 = .ok (.aload_n 0, 1) := by decide +kernel
theorem dX4_at_1 : decode cX4_at 1 = .ok (.iload_n 1, 1) := by decide +kernel
theorem dX4_at_2 : decode cX4_at 2 = .ok (.invokevirtual 108, 3) := by decide +kernel
theorem dX4_at_5 : decode cX4_at 5 = .ok (.ifCond .ne 9, 3) := by decide +kernel
theorem dX4_at_8 : decode cX4_at 8 = .ok (.aload_n 0, 1) := by decide +kernel
theorem dX4_at_9 : decode cX4_at 9 = .ok (.iconst 1, 1) := by decide +kernel
theorem dX4_at_10 : decode cX4_at 10 = .ok (.invokevirtual 101, 3) := by decide +kernel
theorem dX4_at_13 : decode cX4_at 13 = .ok (.ireturn, 1) := by decide +kernel
theorem dX4_at_14 : decode cX4_at 14 = .ok (.iload_n 2, 1) := by decide +kernel
theorem dX4_at_15 : decode cX4_at 15 = .ok (.ifCond .lt 30, 3) := by decide +kernel
theorem dX4_at_18 : decode cX4_at 18 = .ok (.iload_n 2, 1) := by decide +kernel
theorem dX4_at_19 : decode cX4_at 19 = .ok (.bipush 6, 2) := by decide +kernel
theorem dX4_at_21 : decode cX4_at 21 = .ok (.if_icmp .gt 24, 3) := by decide +kernel
theorem dX4_at_24 : decode cX4_at 24 = .ok (.iload_n 3, 1) := by decide +kernel
theorem dX4_at_25 : decode cX4_at 25 = .ok (.ifCond .lt 20, 3) := by decide +kernel
theorem dX4_at_28 : decode cX4_at 28 = .ok (.iload_n 3, 1) := by decide +kernel
theorem dX4_at_29 : decode cX4_at 29 = .ok (.bipush 6, 2) := by decide +kernel
theorem dX4_at_31 : decode cX4_at 31 = .ok (.if_icmp .gt 14, 3) := by decide +kernel
theorem dX4_at_34 : decode cX4_at 34 = .ok (.iload 4, 2) := by decide +kernel
theorem dX4_at_36 : decode cX4_at 36 = .ok (.ifCond .lt 9, 3) := by decide +kernel
theorem dX4_at_39 : decode cX4_at 39 = .ok (.iload 4, 2) := by decide +kernel
theorem dX4_at_41 : decode cX4_at 41 = .ok (.iconst 1, 1) := by decide +kernel
theorem dX4_at_42 : decode cX4_at 42 = .ok (.if_icmp .le 9, 3) := by decide +kernel
theorem dX4_at_45 : decode cX4_at 45 = .ok (.aload_n 0, 1) := by decide +kernel
theorem dX4_at_46 : decode cX4_at 46 = .ok (.iconst 2, 1) := by decide +kernel
theorem dX4_at_47 : decode cX4_at 47 = .ok (.invokevirtual 101, 3) := by decide +kernel
theorem dX4_at_50 : decode cX4_at 50 = .ok (.ireturn, 1) := by decide +kernel
theorem dX4_at_51 : decode cX4_at 51 = .ok (.aload_n 0, 1) := by decide +kernel
theorem dX4_at_52 : decode cX4_at 52 = .ok (.iconst 0, 1) := by decide +kernel
theorem dX4_at_53 : decode cX4_at 53 = .ok (.putfield 62, 3) := by decide +kernel
theorem dX4_at_56 : decode cX4_at 56 = .ok (.iload 4, 2) := by decide +kernel
theorem dX4_at_58 : decode cX4_at 58 = .ok (.ifCond .ne 22, 3) := by decide +kernel
theorem dX4_at_61 : decode cX4_at 61 = .ok (.aload_n 0, 1) := by decide +kernel
theorem dX4_at_62 : decode cX4_at 62 = .ok (.getfield 7, 3) := by decide +kernel
theorem dX4_at_65 : decode cX4_at 65 = .ok (.bipush 49, 2) := by decide +kernel
theorem dX4_at_67 : decode cX4_at 67 = .ok (.iload_n 1, 1) := by decide +kernel
theorem dX4_at_68 : decode cX4_at 68 = .ok (.imul, 1) := by decide +kernel
theorem dX4_at_69 : decode cX4_at 69 = .ok (.bipush 7, 2) := by decide +kernel
theorem dX4_at_71 : decode cX4_at 71 = .ok (.iload_n 2, 1) := by decide +kernel
theorem dX4_at_72 : decode cX4_at 72 = .ok (.imul, 1) := by decide +kernel
theorem dX4_at_73 : decode cX4_at 73 = .ok (.iadd, 1) := by decide +kernel
theorem dX4_at_74 : decode cX4_at 74 = .ok (.iload_n 3, 1) := by decide +kernel
theorem dX4_at_75 : decode cX4_at 75 = .ok (.iadd, 1) := by decide +kernel
theorem dX4_at_76 : decode cX4_at 76 = .ok (.iaload, 1) := by decide +kernel
theorem dX4_at_77 : decode cX4_at 77 = .ok (.goto 19, 3) := by decide +kernel
theorem dX4_at_80 : decode cX4_at 80 = .ok (.aload_n 0, 1) := by decide +kernel
theorem dX4_at_81 : decode cX4_at 81 = .ok (.getfield 13, 3) := by decide +kernel
theorem dX4_at_84 : decode cX4_at 84 = .ok (.bipush 49, 2) := by decide +kernel
theorem dX4_at_86 : decode cX4_at 86 = .ok (.iload_n 1, 1) := by decide +kernel
theorem dX4_at_87 : decode cX4_at 87 = .ok (.imul, 1) := by decide +kernel
theorem dX4_at_88 : decode cX4_at 88 = .ok (.bipush 7, 2) := by decide +kernel
theorem dX4_at_90 : decode cX4_at 90 = .ok (.iload_n 2, 1) := by decide +kernel
theorem dX4_at_91 : decode cX4_at 91 = .ok (.imul, 1) := by decide +kernel
theorem dX4_at_92 : decode cX4_at 92 = .ok (.iadd, 1) := by decide +kernel
theorem dX4_at_93 : decode cX4_at 93 = .ok (.iload_n 3, 1) := by decide +kernel
theorem dX4_at_94 : decode cX4_at 94 = .ok (.iadd, 1) := by decide +kernel
theorem dX4_at_95 : decode cX4_at 95 = .ok (.iaload, 1) := by decide +kernel
theorem dX4_at_96 : decode cX4_at 96 = .ok (.ireturn, 1) := by decide +kernel
theorem dX4_count_0 : decode cX4_count 0 = .ok (.aload_n 0, 1) := by decide +kernel
theorem dX4_count_1 : decode cX4_count 1 = .ok (.iconst 0, 1) := by decide +kernel
theorem dX4_count_2 : decode cX4_count 2 = .ok (.putfield 62, 3) := by decide +kernel
theorem dX4_count_5 : decode cX4_count 5 = .ok (.aload_n 0, 1) := by decide +kernel
theorem dX4_count_6 : decode cX4_count 6 = .ok (.getfield 94, 3) := by decide +kernel
theorem dX4_count_9 : decode cX4_count 9 = .ok (.ireturn, 1) := by decide +kernel
