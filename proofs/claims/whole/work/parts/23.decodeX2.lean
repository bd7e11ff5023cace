theorem dX2_init_0 : decode cX2_init 0 = .ok (.aload_n 0, 1) := by decide +kernel
theorem dX2_init_1 : decode cX2_init 1 = .ok (.invokespecial 3, 3) := by decide +kernel
theorem dX2_init_4 : decode cX2_init 4 = .ok (.aload_n 0, 1) := by decide +kernel
theorem dX2_init_5 : decode cX2_init 5 = .ok (.bipush 13, 2) := by decide +kernel
theorem dX2_init_7 : decode cX2_init 7 = .ok (.anewarray 9, 3) := by decide +kernel
theorem dX2_init_10 : decode cX2_init 10 = .ok (.putfield 11, 3) := by decide +kernel
theorem dX2_init_13 : decode cX2_init 13 = .ok (.iconst 0, 1) := by decide +kernel
theorem dX2_init_14 : decode cX2_init 14 = .ok (.istore_n 1, 1) := by decide +kernel
theorem dX2_init_15 : decode cX2_init 15 = .ok (.iload_n 1, 1) := by decide +kernel
theorem dX2_init_16 : decode cX2_init 16 = .ok (.bipush 13, 2) := by decide +kernel
theorem dX2_init_18 : decode cX2_init 18 = .ok (.if_icmp .ge 22, 3) := by decide +kernel
theorem dX2_init_21 : decode cX2_init 21 = .ok (.aload_n 0, 1) := by decide +kernel
theorem dX2_init_22 : decode cX2_init 22 = .ok (.getfield 11, 3) := by decide +kernel
theorem dX2_init_25 : decode cX2_init 25 = .ok (.iload_n 1, 1) := by decide +kernel
theorem dX2_init_26 : decode cX2_init 26 = .ok (.new 9, 3) := by decide +kernel
theorem dX2_init_29 : decode cX2_init 29 = .ok (.dup, 1) := by decide +kernel
theorem dX2_init_30 : decode cX2_init 30 = .ok (.invokespecial 17, 3) := by decide +kernel
theorem dX2_init_33 : decode cX2_init 33 = .ok (.aastore, 1) := by decide +kernel
theorem dX2_init_34 : decode cX2_init 34 = .ok (.iinc 1 1, 3) := by decide +kernel
theorem dX2_init_37 : decode cX2_init 37 = .ok (.goto (-22), 3) := by decide +kernel
theorem dX2_init_40 : decode cX2_init 40 = .ok (.return_, 1) := by decide +kernel
theorem dX2_row_0 : decode cX2_row 0 = .ok (.aload_n 0, 1) := by decide +kernel
theorem dX2_row_1 : decode cX2_row 1 = .ok (.getfield 11, 3) := by decide +kernel
theorem dX2_row_4 : decode cX2_row 4 = .ok (.iload_n 1, 1) := by decide +kernel
theorem dX2_row_5 : decode cX2_row 5 = .ok (.ifCond .ge 7, 3) := by decide +kernel
theorem dX2_row_8 : decode cX2_row 8 = .ok (.iconst 0, 1) := by decide +kernel
theorem dX2_row_9 : decode cX2_row 9 = .ok (.goto 15, 3) := by decide +kernel
theorem dX2_row_12 : decode cX2_row 12 = .ok (.iload_n 1, 1) := by decide +kernel
theorem dX2_row_13 : decode cX2_row 13 = .ok (.bipush 13, 2) := by decide +kernel
theorem dX2_row_15 : decode cX2_row 15 = .ok (.if_icmp .ge 7, 3) := by decide +kernel
theorem dX2_row_18 : decode cX2_row 18 = .ok (.iload_n 1, 1) := by decide +kernel
theorem dX2_row_19 : decode cX2_row 19 = .ok (.goto 5, 3) := by decide +kernel
theorem dX2_row_22 : decode cX2_row 22 = .ok (.bipush 12, 2) := by decide +kernel
theorem dX2_row_24 : decode cX2_row 24 = .ok (.aaload, 1) := by decide +kernel
theorem dX2_row_25 : decode cX2_row 25 = .ok (.areturn, 1) := by decide +kernel
theorem dX2_clear_0 : decode cX2_clear 0 = .ok (.iconst 0, 1) := by decide +kernel
theorem dX2_clear_1 : decode cX2_clear 1 = .ok (.istore_n 1, 1) := by decide +kernel
theorem dX2_clear_2 : decode cX2_clear 2 = .ok (.iload_n 1, 1) := by decide +kernel
theorem dX2_clear_3 : decode cX2_clear 3 = .ok (.bipush 13, 2) := by decide +kernel
theorem dX2_clear_5 : decode cX2_clear 5 = .ok (.if_icmp .ge 18, 3) := by decide +kernel
theorem dX2_clear_8 : decode cX2_clear 8 = .ok (.aload_n 0, 1) := by decide +kernel
theorem dX2_clear_9 : decode cX2_clear 9 = .ok (.getfield 11, 3) := by decide +kernel
theorem dX2_clear_12 : decode cX2_clear 12 = .ok (.iload_n 1, 1) := by decide +kernel
theorem dX2_clear_13 : decode cX2_clear 13 = .ok (.aaload, 1) := by decide +kernel
theorem dX2_clear_14 : decode cX2_clear 14 = .ok (.invokevirtual 18, 3) := by decide +kernel
theorem dX2_clear_17 : decode cX2_clear 17 = .ok (.iinc 1 1, 3) := by decide +kernel
theorem dX2_clear_20 : decode cX2_clear 20 = .ok (.goto (-18), 3) := by decide +kernel
theorem dX2_clear_23 : decode cX2_clear 23 = .ok (.return_, 1) := by decide +kernel
theorem dX2_copyOf_0 : decode cX2_copyOf 0 = .ok (.iconst 0, 1) := by decide +kernel
theorem dX2_copyOf_1 : decode cX2_copyOf 1 = .ok (.istore_n 2, 1) := by decide +kernel
theorem dX2_copyOf_2 : decode cX2_copyOf 2 = .ok (.iload_n 2, 1) := by decide +kernel
theorem dX2_copyOf_3 : decode cX2_copyOf 3 = .ok (.bipush 13, 2) := by decide +kernel
theorem dX2_copyOf_5 : decode cX2_copyOf 5 = .ok (.if_icmp .ge 24, 3) := by decide +kernel
theorem dX2_copyOf_8 : decode cX2_copyOf 8 = .ok (.aload_n 0, 1) := by decide +kernel
theorem dX2_copyOf_9 : decode cX2_copyOf 9 = .ok (.getfield 11, 3) := by decide +kernel
theorem dX2_copyOf_12 : decode cX2_copyOf 12 = .ok (.iload_n 2, 1) := by decide +kernel
theorem dX2_copyOf_13 : decode cX2_copyOf 13 = .ok (.aaload, 1) := by decide +kernel
theorem dX2_copyOf_14 : decode cX2_copyOf 14 = .ok (.aload_n 1, 1) := by decide +kernel
theorem dX2_copyOf_15 : decode cX2_copyOf 15 = .ok (.getfield 11, 3) := by decide +kernel
theorem dX2_copyOf_18 : decode cX2_copyOf 18 = .ok (.iload_n 2, 1) := by decide +kernel
theorem dX2_copyOf_19 : decode cX2_copyOf 19 = .ok (.aaload, 1) := by decide +kernel
theorem dX2_copyOf_20 : decode cX2_copyOf 20 = .ok (.invokevirtual 21, 3) := by decide +kernel
theorem dX2_copyOf_23 : decode cX2_copyOf 23 = .ok (.iinc 2 1, 3) := by decide +kernel
theorem dX2_copyOf_26 : decode cX2_copyOf 26 = .ok (.goto (-24), 3) := by decide +kernel
theorem dX2_copyOf_29 : decode cX2_copyOf 29 = .ok (.return_, 1) := by decide +kernel
theorem dX2_isZero_0 : decode cX2_isZero 0 = .ok (.aload_n 0, 1) := by decide +kernel
theorem dX2_isZero_1 : decode cX2_isZero 1 = .ok (.invokevirtual 25, 3) := by decide +kernel
theorem dX2_isZero_4 : decode cX2_isZero 4 = .ok (.ifCond .ge 7, 3) := by decide +kernel
theorem dX2_isZero_7 : decode cX2_isZero 7 = .ok (.iconst 1, 1) := by decide +kernel
theorem dX2_isZero_8 : decode cX2_isZero 8 = .ok (.goto 4, 3) := by decide +kernel
theorem dX2_isZero_11 : decode cX2_isZero 11 = .ok (.iconst 0, 1) := by decide +kernel
theorem dX2_isZero_12 : decode cX2_isZero 12 = .ok (.ireturn, 1) := by decide +kernel
theorem dX2_powerT_0 : decode cX2_powerT 0 = .ok (.bipush 12, 2) := by decide +kernel
theorem dX2_powerT_2 : decode cX2_powerT 2 = .ok (.istore_n 1, 1) := by decide +kernel
theorem dX2_powerT_3 : decode cX2_powerT 3 = .ok (.iload_n 1, 1) := by decide +kernel
theorem dX2_powerT_4 : decode cX2_powerT 4 = .ok (.ifCond .lt 21, 3) := by decide +kernel
theorem dX2_powerT_7 : decode cX2_powerT 7 = .ok (.aload_n 0, 1) := by decide +kernel
theorem dX2_powerT_8 : decode cX2_powerT 8 = .ok (.getfield 11, 3) := by decide +kernel
theorem dX2_powerT_11 : decode cX2_powerT 11 = .ok (.iload_n 1, 1) := by decide +kernel
theorem dX2_powerT_12 : decode cX2_powerT 12 = .ok (.aaload, 1) := by decide +kernel
theorem dX2_powerT_13 : decode cX2_powerT 13 = .ok (.getfield 29, 3) := by decide +kernel
theorem dX2_powerT_16 : decode cX2_powerT 16 = .ok (.ifCond .ge 9, 3) := by decide +kernel
theorem dX2_powerT_19 : decode cX2_powerT 19 = .ok (.iinc 1 (-1), 3) := by decide +kernel
theorem dX2_powerT_22 : decode cX2_powerT 22 = .ok (.goto (-19), 3) := by decide +kernel
theorem dX2_powerT_25 : decode cX2_powerT 25 = .ok (.iload_n 1, 1) := by decide +kernel
theorem dX2_powerT_26 : decode cX2_powerT 26 = .ok (.ireturn, 1) := by decide +kernel
theorem dX2_powerX_0 : decode cX2_powerX 0 = .ok (.iconst (-1), 1) := by decide +kernel
theorem dX2_powerX_1 : decode cX2_powerX 1 = .ok (.istore_n 1, 1) := by decide +kernel
theorem dX2_powerX_2 : decode cX2_powerX 2 = .ok (.iconst 0, 1) := by decide +kernel
theorem dX2_powerX_3 : decode cX2_powerX 3 = .ok (.istore_n 2, 1) := by decide +kernel
theorem dX2_powerX_4 : decode cX2_powerX 4 = .ok (.iload_n 2, 1) := by decide +kernel
theorem dX2_powerX_5 : decode cX2_powerX 5 = .ok (.bipush 13, 2) := by decide +kernel
theorem dX2_powerX_7 : decode cX2_powerX 7 = .ok (.if_icmp .ge 23, 3) := by decide +kernel
theorem dX2_powerX_10 : decode cX2_powerX 10 = .ok (.iload_n 1, 1) := by decide +kernel
theorem dX2_powerX_11 : decode cX2_powerX 11 = .ok (.aload_n 0, 1) := by decide +kernel
theorem dX2_powerX_12 : decode cX2_powerX 12 = .ok (.getfield 11, 3) := by decide +kernel
theorem dX2_powerX_15 : decode cX2_powerX 15 = .ok (.iload_n 2, 1) := by decide +kernel
theorem dX2_powerX_16 : decode cX2_powerX 16 = .ok (.aaload, 1) := by decide +kernel
theorem dX2_powerX_17 : decode cX2_powerX 17 = .ok (.getfield 29, 3) := by decide +kernel
theorem dX2_powerX_20 : decode cX2_powerX 20 = .ok (.invokestatic 33, 3) := by decide +kernel
theorem dX2_powerX_23 : decode cX2_powerX 23 = .ok (.istore_n 1, 1) := by decide +kernel
theorem dX2_powerX_24 : decode cX2_powerX 24 = .ok (.iinc 2 1, 3) := by decide +kernel
theorem dX2_powerX_27 : decode cX2_powerX 27 = .ok (.goto (-23), 3) := by decide +kernel
theorem dX2_powerX_30 : decode cX2_powerX 30 = .ok (.iload_n 1, 1) := by decide +kernel
theorem dX2_powerX_31 : decode cX2_powerX 31 = .ok (.ireturn, 1) := by decide +kernel
theorem dX2_head_0 : decode cX2_head 0 = .ok (.aload_n 0, 1) := by decide +kernel
theorem dX2_head_1 : decode cX2_head 1 = .ok (.aload_n 0, 1) := by decide +kernel
theorem dX2_head_2 : decode cX2_head 2 = .ok (.invokevirtual 25, 3) := by decide +kernel
theorem dX2_head_5 : decode cX2_head 5 = .ok (.invokevirtual 39, 3) := by decide +kernel
theorem dX2_head_8 : decode cX2_head 8 = .ok (.astore_n 1, 1) := by decide +kernel
theorem dX2_head_9 : decode cX2_head 9 = .ok (.aload_n 1, 1) := by decide +kernel
theorem dX2_head_10 : decode cX2_head 10 = .ok (.aload_n 1, 1) := by decide +kernel
theorem dX2_head_11 : decode cX2_head 11 = .ok (.getfield 29, 3) := by decide +kernel
theorem dX2_head_14 : decode cX2_head 14 = .ok (.invokevirtual 43, 3) := by decide +kernel
theorem dX2_head_17 : decode cX2_head 17 = .ok (.ireturn, 1) := by decide +kernel
theorem dX2_scale_0 : decode cX2_scale 0 = .ok (.iconst 0, 1) := by decide +kernel
theorem dX2_scale_1 : decode cX2_scale 1 = .ok (.istore_n 2, 1) := by decide +kernel
theorem dX2_scale_2 : decode cX2_scale 2 = .ok (.iload_n 2, 1) := by decide +kernel
theorem dX2_scale_3 : decode cX2_scale 3 = .ok (.bipush 13, 2) := by decide +kernel
theorem dX2_scale_5 : decode cX2_scale 5 = .ok (.if_icmp .ge 19, 3) := by decide +kernel
theorem dX2_scale_8 : decode cX2_scale 8 = .ok (.aload_n 0, 1) := by decide +kernel
theorem dX2_scale_9 : decode cX2_scale 9 = .ok (.getfield 11, 3) := by decide +kernel
theorem dX2_scale_12 : decode cX2_scale 12 = .ok (.iload_n 2, 1) := by decide +kernel
theorem dX2_scale_13 : decode cX2_scale 13 = .ok (.aaload, 1) := by decide +kernel
theorem dX2_scale_14 : decode cX2_scale 14 = .ok (.iload_n 1, 1) := by decide +kernel
theorem dX2_scale_15 : decode cX2_scale 15 = .ok (.invokevirtual 47, 3) := by decide +kernel
theorem dX2_scale_18 : decode cX2_scale 18 = .ok (.iinc 2 1, 3) := by decide +kernel
theorem dX2_scale_21 : decode cX2_scale 21 = .ok (.goto (-19), 3) := by decide +kernel
theorem dX2_scale_24 : decode cX2_scale 24 = .ok (.return_, 1) := by decide +kernel
theorem dX2_plusProduct_0 : decode cX2_plusProduct 0 = .ok (.aload_n 1, 1) := by decide +kernel
theorem dX2_plusProduct_1 : decode cX2_plusProduct 1 = .ok (.invokevirtual 25, 3) := by decide +kernel
theorem dX2_plusProduct_4 : decode cX2_plusProduct 4 = .ok (.istore 4, 2) := by decide +kernel
theorem dX2_plusProduct_6 : decode cX2_plusProduct 6 = .ok (.aload_n 2, 1) := by decide +kernel
theorem dX2_plusProduct_7 : decode cX2_plusProduct 7 = .ok (.invokevirtual 25, 3) := by decide +kernel
theorem dX2_plusProduct_10 : decode cX2_plusProduct 10 = .ok (.istore 5, 2) := by decide +kernel
theorem dX2_plusProduct_12 : decode cX2_plusProduct 12 = .ok (.iconst 0, 1) := by decide +kernel
theorem dX2_plusProduct_13 : decode cX2_plusProduct 13 = .ok (.istore 6, 2) := by decide +kernel
theorem dX2_plusProduct_15 : decode cX2_plusProduct 15 = .ok (.iload 6, 2) := by decide +kernel
theorem dX2_plusProduct_17 : decode cX2_plusProduct 17 = .ok (.iload 4, 2) := by decide +kernel
theorem dX2_plusProduct_19 : decode cX2_plusProduct 19 = .ok (.if_icmp .gt 70, 3) := by decide +kernel
theorem dX2_plusProduct_22 : decode cX2_plusProduct 22 = .ok (.iload 6, 2) := by decide +kernel
theorem dX2_plusProduct_24 : decode cX2_plusProduct 24 = .ok (.bipush 13, 2) := by decide +kernel
theorem dX2_plusProduct_26 : decode cX2_plusProduct 26 = .ok (.if_icmp .ge 63, 3) := by decide +kernel
theorem dX2_plusProduct_29 : decode cX2_plusProduct 29 = .ok (.iconst 0, 1) := by decide +kernel
theorem dX2_plusProduct_30 : decode cX2_plusProduct 30 = .ok (.istore 7, 2) := by decide +kernel
theorem dX2_plusProduct_32 : decode cX2_plusProduct 32 = .ok (.iload 7, 2) := by decide +kernel
theorem dX2_plusProduct_34 : decode cX2_plusProduct 34 = .ok (.iload 5, 2) := by decide +kernel
theorem dX2_plusProduct_36 : decode cX2_plusProduct 36 = .ok (.if_icmp .gt 47, 3) := by decide +kernel
theorem dX2_plusProduct_39 : decode cX2_plusProduct 39 = .ok (.iload 6, 2) := by decide +kernel
theorem dX2_plusProduct_41 : decode cX2_plusProduct 41 = .ok (.iload 7, 2) := by decide +kernel
theorem dX2_plusProduct_43 : decode cX2_plusProduct 43 = .ok (.iadd, 1) := by decide +kernel
theorem dX2_plusProduct_44 : decode cX2_plusProduct 44 = .ok (.bipush 13, 2) := by decide +kernel
theorem dX2_plusProduct_46 : decode cX2_plusProduct 46 = .ok (.if_icmp .ge 37, 3) := by decide +kernel
theorem dX2_plusProduct_49 : decode cX2_plusProduct 49 = .ok (.aload_n 0, 1) := by decide +kernel
theorem dX2_plusProduct_50 : decode cX2_plusProduct 50 = .ok (.getfield 11, 3) := by decide +kernel
theorem dX2_plusProduct_53 : decode cX2_plusProduct 53 = .ok (.iload 6, 2) := by decide +kernel
theorem dX2_plusProduct_55 : decode cX2_plusProduct 55 = .ok (.iload 7, 2) := by decide +kernel
theorem dX2_plusProduct_57 : decode cX2_plusProduct 57 = .ok (.iadd, 1) := by decide +kernel
theorem dX2_plusProduct_58 : decode cX2_plusProduct 58 = .ok (.aaload, 1) := by decide +kernel
theorem dX2_plusProduct_59 : decode cX2_plusProduct 59 = .ok (.aload_n 1, 1) := by decide +kernel
theorem dX2_plusProduct_60 : decode cX2_plusProduct 60 = .ok (.getfield 11, 3) := by decide +kernel
theorem dX2_plusProduct_63 : decode cX2_plusProduct 63 = .ok (.iload 6, 2) := by decide +kernel
theorem dX2_plusProduct_65 : decode cX2_plusProduct 65 = .ok (.aaload, 1) := by decide +kernel
theorem dX2_plusProduct_66 : decode cX2_plusProduct 66 = .ok (.aload_n 2, 1) := by decide +kernel
theorem dX2_plusProduct_67 : decode cX2_plusProduct 67 = .ok (.getfield 11, 3) := by decide +kernel
theorem dX2_plusProduct_70 : decode cX2_plusProduct 70 = .ok (.iload 7, 2) := by decide +kernel
theorem dX2_plusProduct_72 : decode cX2_plusProduct 72 = .ok (.aaload, 1) := by decide +kernel
theorem dX2_plusProduct_73 : decode cX2_plusProduct 73 = .ok (.iload_n 3, 1) := by decide +kernel
theorem dX2_plusProduct_74 : decode cX2_plusProduct 74 = .ok (.invokevirtual 51, 3) := by decide +kernel
theorem dX2_plusProduct_77 : decode cX2_plusProduct 77 = .ok (.iinc 7 1, 3) := by decide +kernel
theorem dX2_plusProduct_80 : decode cX2_plusProduct 80 = .ok (.goto (-48), 3) := by decide +kernel
theorem dX2_plusProduct_83 : decode cX2_plusProduct 83 = .ok (.iinc 6 1, 3) := by decide +kernel
theorem dX2_plusProduct_86 : decode cX2_plusProduct 86 = .ok (.goto (-71), 3) := by decide +kernel
theorem dX2_plusProduct_89 : decode cX2_plusProduct 89 = .ok (.return_, 1) := by decide +kernel
