theorem dX1_init_0 : decode cX1_init 0 = .ok (.aload_n 0, 1) := by decide +kernel
theorem dX1_init_1 : decode cX1_init 1 = .ok (.invokespecial 3, 3) := by decide +kernel
theorem dX1_init_4 : decode cX1_init 4 = .ok (.aload_n 0, 1) := by decide +kernel
theorem dX1_init_5 : decode cX1_init 5 = .ok (.bipush 52, 2) := by decide +kernel
theorem dX1_init_7 : decode cX1_init 7 = .ok (.newarray .int, 2) := by decide +kernel
theorem dX1_init_9 : decode cX1_init 9 = .ok (.putfield 9, 3) := by decide +kernel
theorem dX1_init_12 : decode cX1_init 12 = .ok (.aload_n 0, 1) := by decide +kernel
theorem dX1_init_13 : decode cX1_init 13 = .ok (.iconst (-1), 1) := by decide +kernel
theorem dX1_init_14 : decode cX1_init 14 = .ok (.putfield 15, 3) := by decide +kernel
theorem dX1_init_17 : decode cX1_init 17 = .ok (.return_, 1) := by decide +kernel
theorem dX1_get_0 : decode cX1_get 0 = .ok (.iload_n 1, 1) := by decide +kernel
theorem dX1_get_1 : decode cX1_get 1 = .ok (.ifCond .lt 21, 3) := by decide +kernel
theorem dX1_get_4 : decode cX1_get 4 = .ok (.iload_n 1, 1) := by decide +kernel
theorem dX1_get_5 : decode cX1_get 5 = .ok (.aload_n 0, 1) := by decide +kernel
theorem dX1_get_6 : decode cX1_get 6 = .ok (.getfield 9, 3) := by decide +kernel
theorem dX1_get_9 : decode cX1_get 9 = .ok (.arraylength, 1) := by decide +kernel
theorem dX1_get_10 : decode cX1_get 10 = .ok (.if_icmp .ge 12, 3) := by decide +kernel
theorem dX1_get_13 : decode cX1_get 13 = .ok (.aload_n 0, 1) := by decide +kernel
theorem dX1_get_14 : decode cX1_get 14 = .ok (.getfield 9, 3) := by decide +kernel
theorem dX1_get_17 : decode cX1_get 17 = .ok (.iload_n 1, 1) := by decide +kernel
theorem dX1_get_18 : decode cX1_get 18 = .ok (.iaload, 1) := by decide +kernel
theorem dX1_get_19 : decode cX1_get 19 = .ok (.goto 4, 3) := by decide +kernel
theorem dX1_get_22 : decode cX1_get 22 = .ok (.iconst 0, 1) := by decide +kernel
theorem dX1_get_23 : decode cX1_get 23 = .ok (.ireturn, 1) := by decide +kernel
theorem dX1_put_0 : decode cX1_put 0 = .ok (.iload_n 1, 1) := by decide +kernel
theorem dX1_put_1 : decode cX1_put 1 = .ok (.ifCond .lt 12, 3) := by decide +kernel
theorem dX1_put_4 : decode cX1_put 4 = .ok (.iload_n 1, 1) := by decide +kernel
theorem dX1_put_5 : decode cX1_put 5 = .ok (.aload_n 0, 1) := by decide +kernel
theorem dX1_put_6 : decode cX1_put 6 = .ok (.getfield 9, 3) := by decide +kernel
theorem dX1_put_9 : decode cX1_put 9 = .ok (.arraylength, 1) := by decide +kernel
theorem dX1_put_10 : decode cX1_put 10 = .ok (.if_icmp .lt 4, 3) := by decide +kernel
theorem dX1_put_13 : decode cX1_put 13 = .ok (.return_, 1) := by decide +kernel
theorem dX1_put_14 : decode cX1_put 14 = .ok (.aload_n 0, 1) := by decide +kernel
theorem dX1_put_15 : decode cX1_put 15 = .ok (.getfield 9, 3) := by decide +kernel
theorem dX1_put_18 : decode cX1_put 18 = .ok (.iload_n 1, 1) := by decide +kernel
theorem dX1_put_19 : decode cX1_put 19 = .ok (.iload_n 2, 1) := by decide +kernel
theorem dX1_put_20 : decode cX1_put 20 = .ok (.iastore, 1) := by decide +kernel
theorem dX1_put_21 : decode cX1_put 21 = .ok (.iload_n 1, 1) := by decide +kernel
theorem dX1_put_22 : decode cX1_put 22 = .ok (.aload_n 0, 1) := by decide +kernel
theorem dX1_put_23 : decode cX1_put 23 = .ok (.getfield 15, 3) := by decide +kernel
theorem dX1_put_26 : decode cX1_put 26 = .ok (.if_icmp .le 7, 3) := by decide +kernel
theorem dX1_put_29 : decode cX1_put 29 = .ok (.iload_n 1, 1) := by decide +kernel
theorem dX1_put_30 : decode cX1_put 30 = .ok (.goto 7, 3) := by decide +kernel
theorem dX1_put_33 : decode cX1_put 33 = .ok (.aload_n 0, 1) := by decide +kernel
theorem dX1_put_34 : decode cX1_put 34 = .ok (.getfield 15, 3) := by decide +kernel
theorem dX1_put_37 : decode cX1_put 37 = .ok (.istore_n 3, 1) := by decide +kernel
theorem dX1_put_38 : decode cX1_put 38 = .ok (.iload_n 3, 1) := by decide +kernel
theorem dX1_put_39 : decode cX1_put 39 = .ok (.ifCond .lt 27, 3) := by decide +kernel
theorem dX1_put_42 : decode cX1_put 42 = .ok (.iload_n 3, 1) := by decide +kernel
theorem dX1_put_43 : decode cX1_put 43 = .ok (.aload_n 0, 1) := by decide +kernel
theorem dX1_put_44 : decode cX1_put 44 = .ok (.getfield 9, 3) := by decide +kernel
theorem dX1_put_47 : decode cX1_put 47 = .ok (.arraylength, 1) := by decide +kernel
theorem dX1_put_48 : decode cX1_put 48 = .ok (.if_icmp .ge 18, 3) := by decide +kernel
theorem dX1_put_51 : decode cX1_put 51 = .ok (.aload_n 0, 1) := by decide +kernel
theorem dX1_put_52 : decode cX1_put 52 = .ok (.getfield 9, 3) := by decide +kernel
theorem dX1_put_55 : decode cX1_put 55 = .ok (.iload_n 3, 1) := by decide +kernel
theorem dX1_put_56 : decode cX1_put 56 = .ok (.iaload, 1) := by decide +kernel
theorem dX1_put_57 : decode cX1_put 57 = .ok (.ifCond .ne 9, 3) := by decide +kernel
theorem dX1_put_60 : decode cX1_put 60 = .ok (.iinc 3 (-1), 3) := by decide +kernel
theorem dX1_put_63 : decode cX1_put 63 = .ok (.goto (-25), 3) := by decide +kernel
theorem dX1_put_66 : decode cX1_put 66 = .ok (.aload_n 0, 1) := by decide +kernel
theorem dX1_put_67 : decode cX1_put 67 = .ok (.iload_n 3, 1) := by decide +kernel
theorem dX1_put_68 : decode cX1_put 68 = .ok (.putfield 15, 3) := by decide +kernel
theorem dX1_put_71 : decode cX1_put 71 = .ok (.return_, 1) := by decide +kernel
theorem dX1_clear_0 : decode cX1_clear 0 = .ok (.iconst 0, 1) := by decide +kernel
theorem dX1_clear_1 : decode cX1_clear 1 = .ok (.istore_n 1, 1) := by decide +kernel
theorem dX1_clear_2 : decode cX1_clear 2 = .ok (.iload_n 1, 1) := by decide +kernel
theorem dX1_clear_3 : decode cX1_clear 3 = .ok (.aload_n 0, 1) := by decide +kernel
theorem dX1_clear_4 : decode cX1_clear 4 = .ok (.getfield 15, 3) := by decide +kernel
theorem dX1_clear_7 : decode cX1_clear 7 = .ok (.if_icmp .gt 25, 3) := by decide +kernel
theorem dX1_clear_10 : decode cX1_clear 10 = .ok (.iload_n 1, 1) := by decide +kernel
theorem dX1_clear_11 : decode cX1_clear 11 = .ok (.aload_n 0, 1) := by decide +kernel
theorem dX1_clear_12 : decode cX1_clear 12 = .ok (.getfield 9, 3) := by decide +kernel
theorem dX1_clear_15 : decode cX1_clear 15 = .ok (.arraylength, 1) := by decide +kernel
theorem dX1_clear_16 : decode cX1_clear 16 = .ok (.if_icmp .ge 16, 3) := by decide +kernel
theorem dX1_clear_19 : decode cX1_clear 19 = .ok (.aload_n 0, 1) := by decide +kernel
theorem dX1_clear_20 : decode cX1_clear 20 = .ok (.getfield 9, 3) := by decide +kernel
theorem dX1_clear_23 : decode cX1_clear 23 = .ok (.iload_n 1, 1) := by decide +kernel
theorem dX1_clear_24 : decode cX1_clear 24 = .ok (.iconst 0, 1) := by decide +kernel
theorem dX1_clear_25 : decode cX1_clear 25 = .ok (.iastore, 1) := by decide +kernel
theorem dX1_clear_26 : decode cX1_clear 26 = .ok (.iinc 1 1, 3) := by decide +kernel
theorem dX1_clear_29 : decode cX1_clear 29 = .ok (.goto (-27), 3) := by decide +kernel
theorem dX1_clear_32 : decode cX1_clear 32 = .ok (.aload_n 0, 1) := by decide +kernel
theorem dX1_clear_33 : decode cX1_clear 33 = .ok (.iconst (-1), 1) := by decide +kernel
theorem dX1_clear_34 : decode cX1_clear 34 = .ok (.putfield 15, 3) := by decide +kernel
theorem dX1_clear_37 : decode cX1_clear 37 = .ok (.return_, 1) := by decide +kernel
theorem dX1_copyOf_0 : decode cX1_copyOf 0 = .ok (.aload_n 0, 1) := by decide +kernel
theorem dX1_copyOf_1 : decode cX1_copyOf 1 = .ok (.getfield 15, 3) := by decide +kernel
theorem dX1_copyOf_4 : decode cX1_copyOf 4 = .ok (.aload_n 1, 1) := by decide +kernel
theorem dX1_copyOf_5 : decode cX1_copyOf 5 = .ok (.getfield 15, 3) := by decide +kernel
theorem dX1_copyOf_8 : decode cX1_copyOf 8 = .ok (.if_icmp .le 10, 3) := by decide +kernel
theorem dX1_copyOf_11 : decode cX1_copyOf 11 = .ok (.aload_n 0, 1) := by decide +kernel
theorem dX1_copyOf_12 : decode cX1_copyOf 12 = .ok (.getfield 15, 3) := by decide +kernel
theorem dX1_copyOf_15 : decode cX1_copyOf 15 = .ok (.goto 7, 3) := by decide +kernel
theorem dX1_copyOf_18 : decode cX1_copyOf 18 = .ok (.aload_n 1, 1) := by decide +kernel
theorem dX1_copyOf_19 : decode cX1_copyOf 19 = .ok (.getfield 15, 3) := by decide +kernel
theorem dX1_copyOf_22 : decode cX1_copyOf 22 = .ok (.istore_n 2, 1) := by decide +kernel
theorem dX1_copyOf_23 : decode cX1_copyOf 23 = .ok (.iconst 0, 1) := by decide +kernel
theorem dX1_copyOf_24 : decode cX1_copyOf 24 = .ok (.istore_n 3, 1) := by decide +kernel
theorem dX1_copyOf_25 : decode cX1_copyOf 25 = .ok (.iload_n 3, 1) := by decide +kernel
theorem dX1_copyOf_26 : decode cX1_copyOf 26 = .ok (.iload_n 2, 1) := by decide +kernel
theorem dX1_copyOf_27 : decode cX1_copyOf 27 = .ok (.if_icmp .gt 39, 3) := by decide +kernel
theorem dX1_copyOf_30 : decode cX1_copyOf 30 = .ok (.iload_n 3, 1) := by decide +kernel
theorem dX1_copyOf_31 : decode cX1_copyOf 31 = .ok (.aload_n 0, 1) := by decide +kernel
theorem dX1_copyOf_32 : decode cX1_copyOf 32 = .ok (.getfield 9, 3) := by decide +kernel
theorem dX1_copyOf_35 : decode cX1_copyOf 35 = .ok (.arraylength, 1) := by decide +kernel
theorem dX1_copyOf_36 : decode cX1_copyOf 36 = .ok (.if_icmp .ge 30, 3) := by decide +kernel
theorem dX1_copyOf_39 : decode cX1_copyOf 39 = .ok (.iload_n 3, 1) := by decide +kernel
theorem dX1_copyOf_40 : decode cX1_copyOf 40 = .ok (.aload_n 1, 1) := by decide +kernel
theorem dX1_copyOf_41 : decode cX1_copyOf 41 = .ok (.getfield 9, 3) := by decide +kernel
theorem dX1_copyOf_44 : decode cX1_copyOf 44 = .ok (.arraylength, 1) := by decide +kernel
theorem dX1_copyOf_45 : decode cX1_copyOf 45 = .ok (.if_icmp .ge 21, 3) := by decide +kernel
theorem dX1_copyOf_48 : decode cX1_copyOf 48 = .ok (.aload_n 0, 1) := by decide +kernel
theorem dX1_copyOf_49 : decode cX1_copyOf 49 = .ok (.getfield 9, 3) := by decide +kernel
theorem dX1_copyOf_52 : decode cX1_copyOf 52 = .ok (.iload_n 3, 1) := by decide +kernel
theorem dX1_copyOf_53 : decode cX1_copyOf 53 = .ok (.aload_n 1, 1) := by decide +kernel
theorem dX1_copyOf_54 : decode cX1_copyOf 54 = .ok (.getfield 9, 3) := by decide +kernel
theorem dX1_copyOf_57 : decode cX1_copyOf 57 = .ok (.iload_n 3, 1) := by decide +kernel
theorem dX1_copyOf_58 : decode cX1_copyOf 58 = .ok (.iaload, 1) := by decide +kernel
theorem dX1_copyOf_59 : decode cX1_copyOf 59 = .ok (.iastore, 1) := by decide +kernel
theorem dX1_copyOf_60 : decode cX1_copyOf 60 = .ok (.iinc 3 1, 3) := by decide +kernel
theorem dX1_copyOf_63 : decode cX1_copyOf 63 = .ok (.goto (-38), 3) := by decide +kernel
theorem dX1_copyOf_66 : decode cX1_copyOf 66 = .ok (.aload_n 0, 1) := by decide +kernel
theorem dX1_copyOf_67 : decode cX1_copyOf 67 = .ok (.aload_n 1, 1) := by decide +kernel
theorem dX1_copyOf_68 : decode cX1_copyOf 68 = .ok (.getfield 15, 3) := by decide +kernel
theorem dX1_copyOf_71 : decode cX1_copyOf 71 = .ok (.putfield 15, 3) := by decide +kernel
theorem dX1_copyOf_74 : decode cX1_copyOf 74 = .ok (.return_, 1) := by decide +kernel
theorem dX1_valueAt_0 : decode cX1_valueAt 0 = .ok (.iconst 0, 1) := by decide +kernel
theorem dX1_valueAt_1 : decode cX1_valueAt 1 = .ok (.istore_n 2, 1) := by decide +kernel
theorem dX1_valueAt_2 : decode cX1_valueAt 2 = .ok (.aload_n 0, 1) := by decide +kernel
theorem dX1_valueAt_3 : decode cX1_valueAt 3 = .ok (.getfield 15, 3) := by decide +kernel
theorem dX1_valueAt_6 : decode cX1_valueAt 6 = .ok (.istore_n 3, 1) := by decide +kernel
theorem dX1_valueAt_7 : decode cX1_valueAt 7 = .ok (.iload_n 3, 1) := by decide +kernel
theorem dX1_valueAt_8 : decode cX1_valueAt 8 = .ok (.ifCond .lt 23, 3) := by decide +kernel
theorem dX1_valueAt_11 : decode cX1_valueAt 11 = .ok (.iload_n 2, 1) := by decide +kernel
theorem dX1_valueAt_12 : decode cX1_valueAt 12 = .ok (.iload_n 1, 1) := by decide +kernel
theorem dX1_valueAt_13 : decode cX1_valueAt 13 = .ok (.imul, 1) := by decide +kernel
theorem dX1_valueAt_14 : decode cX1_valueAt 14 = .ok (.aload_n 0, 1) := by decide +kernel
theorem dX1_valueAt_15 : decode cX1_valueAt 15 = .ok (.iload_n 3, 1) := by decide +kernel
theorem dX1_valueAt_16 : decode cX1_valueAt 16 = .ok (.invokevirtual 19, 3) := by decide +kernel
theorem dX1_valueAt_19 : decode cX1_valueAt 19 = .ok (.iadd, 1) := by decide +kernel
theorem dX1_valueAt_20 : decode cX1_valueAt 20 = .ok (.sipush 32003, 3) := by decide +kernel
theorem dX1_valueAt_23 : decode cX1_valueAt 23 = .ok (.irem, 1) := by decide +kernel
theorem dX1_valueAt_24 : decode cX1_valueAt 24 = .ok (.istore_n 2, 1) := by decide +kernel
theorem dX1_valueAt_25 : decode cX1_valueAt 25 = .ok (.iinc 3 (-1), 3) := by decide +kernel
theorem dX1_valueAt_28 : decode cX1_valueAt 28 = .ok (.goto (-21), 3) := by decide +kernel
theorem dX1_valueAt_31 : decode cX1_valueAt 31 = .ok (.iload_n 2, 1) := by decide +kernel
theorem dX1_valueAt_32 : decode cX1_valueAt 32 = .ok (.ireturn, 1) := by decide +kernel
theorem dX1_scale_0 : decode cX1_scale 0 = .ok (.aload_n 0, 1) := by decide +kernel
theorem dX1_scale_1 : decode cX1_scale 1 = .ok (.getfield 15, 3) := by decide +kernel
theorem dX1_scale_4 : decode cX1_scale 4 = .ok (.istore_n 2, 1) := by decide +kernel
theorem dX1_scale_5 : decode cX1_scale 5 = .ok (.iload_n 2, 1) := by decide +kernel
theorem dX1_scale_6 : decode cX1_scale 6 = .ok (.ifCond .lt 25, 3) := by decide +kernel
theorem dX1_scale_9 : decode cX1_scale 9 = .ok (.aload_n 0, 1) := by decide +kernel
theorem dX1_scale_10 : decode cX1_scale 10 = .ok (.iload_n 2, 1) := by decide +kernel
theorem dX1_scale_11 : decode cX1_scale 11 = .ok (.aload_n 0, 1) := by decide +kernel
theorem dX1_scale_12 : decode cX1_scale 12 = .ok (.iload_n 2, 1) := by decide +kernel
theorem dX1_scale_13 : decode cX1_scale 13 = .ok (.invokevirtual 19, 3) := by decide +kernel
theorem dX1_scale_16 : decode cX1_scale 16 = .ok (.iload_n 1, 1) := by decide +kernel
theorem dX1_scale_17 : decode cX1_scale 17 = .ok (.imul, 1) := by decide +kernel
theorem dX1_scale_18 : decode cX1_scale 18 = .ok (.sipush 32003, 3) := by decide +kernel
theorem dX1_scale_21 : decode cX1_scale 21 = .ok (.irem, 1) := by decide +kernel
theorem dX1_scale_22 : decode cX1_scale 22 = .ok (.invokevirtual 23, 3) := by decide +kernel
theorem dX1_scale_25 : decode cX1_scale 25 = .ok (.iinc 2 (-1), 3) := by decide +kernel
theorem dX1_scale_28 : decode cX1_scale 28 = .ok (.goto (-23), 3) := by decide +kernel
theorem dX1_scale_31 : decode cX1_scale 31 = .ok (.return_, 1) := by decide +kernel
theorem dX1_plusShifted_0 : decode cX1_plusShifted 0 = .ok (.aload_n 0, 1) := by decide +kernel
theorem dX1_plusShifted_1 : decode cX1_plusShifted 1 = .ok (.getfield 15, 3) := by decide +kernel
theorem dX1_plusShifted_4 : decode cX1_plusShifted 4 = .ok (.istore 4, 2) := by decide +kernel
theorem dX1_plusShifted_6 : decode cX1_plusShifted 6 = .ok (.iconst 0, 1) := by decide +kernel
theorem dX1_plusShifted_7 : decode cX1_plusShifted 7 = .ok (.istore 5, 2) := by decide +kernel
theorem dX1_plusShifted_9 : decode cX1_plusShifted 9 = .ok (.iload 5, 2) := by decide +kernel
theorem dX1_plusShifted_11 : decode cX1_plusShifted 11 = .ok (.aload_n 1, 1) := by decide +kernel
theorem dX1_plusShifted_12 : decode cX1_plusShifted 12 = .ok (.getfield 15, 3) := by decide +kernel
theorem dX1_plusShifted_15 : decode cX1_plusShifted 15 = .ok (.if_icmp .gt 84, 3) := by decide +kernel
theorem dX1_plusShifted_18 : decode cX1_plusShifted 18 = .ok (.iload 5, 2) := by decide +kernel
theorem dX1_plusShifted_20 : decode cX1_plusShifted 20 = .ok (.aload_n 1, 1) := by decide +kernel
theorem dX1_plusShifted_21 : decode cX1_plusShifted 21 = .ok (.getfield 9, 3) := by decide +kernel
theorem dX1_plusShifted_24 : decode cX1_plusShifted 24 = .ok (.arraylength, 1) := by decide +kernel
theorem dX1_plusShifted_25 : decode cX1_plusShifted 25 = .ok (.if_icmp .ge 74, 3) := by decide +kernel
theorem dX1_plusShifted_28 : decode cX1_plusShifted 28 = .ok (.iload 5, 2) := by decide +kernel
theorem dX1_plusShifted_30 : decode cX1_plusShifted 30 = .ok (.iload_n 3, 1) := by decide +kernel
theorem dX1_plusShifted_31 : decode cX1_plusShifted 31 = .ok (.iadd, 1) := by decide +kernel
theorem dX1_plusShifted_32 : decode cX1_plusShifted 32 = .ok (.istore 6, 2) := by decide +kernel
theorem dX1_plusShifted_34 : decode cX1_plusShifted 34 = .ok (.iload 6, 2) := by decide +kernel
theorem dX1_plusShifted_36 : decode cX1_plusShifted 36 = .ok (.ifCond .lt 57, 3) := by decide +kernel
theorem dX1_plusShifted_39 : decode cX1_plusShifted 39 = .ok (.iload 6, 2) := by decide +kernel
theorem dX1_plusShifted_41 : decode cX1_plusShifted 41 = .ok (.aload_n 0, 1) := by decide +kernel
theorem dX1_plusShifted_42 : decode cX1_plusShifted 42 = .ok (.getfield 9, 3) := by decide +kernel
theorem dX1_plusShifted_45 : decode cX1_plusShifted 45 = .ok (.arraylength, 1) := by decide +kernel
theorem dX1_plusShifted_46 : decode cX1_plusShifted 46 = .ok (.if_icmp .ge 47, 3) := by decide +kernel
theorem dX1_plusShifted_49 : decode cX1_plusShifted 49 = .ok (.aload_n 0, 1) := by decide +kernel
theorem dX1_plusShifted_50 : decode cX1_plusShifted 50 = .ok (.getfield 9, 3) := by decide +kernel
theorem dX1_plusShifted_53 : decode cX1_plusShifted 53 = .ok (.iload 6, 2) := by decide +kernel
theorem dX1_plusShifted_55 : decode cX1_plusShifted 55 = .ok (.aload_n 0, 1) := by decide +kernel
theorem dX1_plusShifted_56 : decode cX1_plusShifted 56 = .ok (.getfield 9, 3) := by decide +kernel
theorem dX1_plusShifted_59 : decode cX1_plusShifted 59 = .ok (.iload 6, 2) := by decide +kernel
theorem dX1_plusShifted_61 : decode cX1_plusShifted 61 = .ok (.iaload, 1) := by decide +kernel
theorem dX1_plusShifted_62 : decode cX1_plusShifted 62 = .ok (.aload_n 1, 1) := by decide +kernel
theorem dX1_plusShifted_63 : decode cX1_plusShifted 63 = .ok (.getfield 9, 3) := by decide +kernel
theorem dX1_plusShifted_66 : decode cX1_plusShifted 66 = .ok (.iload 5, 2) := by decide +kernel
theorem dX1_plusShifted_68 : decode cX1_plusShifted 68 = .ok (.iaload, 1) := by decide +kernel
theorem dX1_plusShifted_69 : decode cX1_plusShifted 69 = .ok (.iload_n 2, 1) := by decide +kernel
theorem dX1_plusShifted_70 : decode cX1_plusShifted 70 = .ok (.imul, 1) := by decide +kernel
theorem dX1_plusShifted_71 : decode cX1_plusShifted 71 = .ok (.iadd, 1) := by decide +kernel
theorem dX1_plusShifted_72 : decode cX1_plusShifted 72 = .ok (.sipush 32003, 3) := by decide +kernel
theorem dX1_plusShifted_75 : decode cX1_plusShifted 75 = .ok (.irem, 1) := by decide +kernel
theorem dX1_plusShifted_76 : decode cX1_plusShifted 76 = .ok (.iastore, 1) := by decide +kernel
theorem dX1_plusShifted_77 : decode cX1_plusShifted 77 = .ok (.iload 6, 2) := by decide +kernel
theorem dX1_plusShifted_79 : decode cX1_plusShifted 79 = .ok (.iload 4, 2) := by decide +kernel
theorem dX1_plusShifted_81 : decode cX1_plusShifted 81 = .ok (.if_icmp .le 8, 3) := by decide +kernel
theorem dX1_plusShifted_84 : decode cX1_plusShifted 84 = .ok (.iload 6, 2) := by decide +kernel
theorem dX1_plusShifted_86 : decode cX1_plusShifted 86 = .ok (.goto 5, 3) := by decide +kernel
theorem dX1_plusShifted_89 : decode cX1_plusShifted 89 = .ok (.iload 4, 2) := by decide +kernel
theorem dX1_plusShifted_91 : decode cX1_plusShifted 91 = .ok (.istore 4, 2) := by decide +kernel
theorem dX1_plusShifted_93 : decode cX1_plusShifted 93 = .ok (.iinc 5 1, 3) := by decide +kernel
theorem dX1_plusShifted_96 : decode cX1_plusShifted 96 = .ok (.goto (-87), 3) := by decide +kernel
theorem dX1_plusShifted_99 : decode cX1_plusShifted 99 = .ok (.iload 4, 2) := by decide +kernel
theorem dX1_plusShifted_101 : decode cX1_plusShifted 101 = .ok (.ifCond .lt 29, 3) := by decide +kernel
theorem dX1_plusShifted_104 : decode cX1_plusShifted 104 = .ok (.iload 4, 2) := by decide +kernel
theorem dX1_plusShifted_106 : decode cX1_plusShifted 106 = .ok (.aload_n 0, 1) := by decide +kernel
theorem dX1_plusShifted_107 : decode cX1_plusShifted 107 = .ok (.getfield 9, 3) := by decide +kernel
theorem dX1_plusShifted_110 : decode cX1_plusShifted 110 = .ok (.arraylength, 1) := by decide +kernel
theorem dX1_plusShifted_111 : decode cX1_plusShifted 111 = .ok (.if_icmp .ge 19, 3) := by decide +kernel
theorem dX1_plusShifted_114 : decode cX1_plusShifted 114 = .ok (.aload_n 0, 1) := by decide +kernel
theorem dX1_plusShifted_115 : decode cX1_plusShifted 115 = .ok (.getfield 9, 3) := by decide +kernel
theorem dX1_plusShifted_118 : decode cX1_plusShifted 118 = .ok (.iload 4, 2) := by decide +kernel
theorem dX1_plusShifted_120 : decode cX1_plusShifted 120 = .ok (.iaload, 1) := by decide +kernel
theorem dX1_plusShifted_121 : decode cX1_plusShifted 121 = .ok (.ifCond .ne 9, 3) := by decide +kernel
theorem dX1_plusShifted_124 : decode cX1_plusShifted 124 = .ok (.iinc 4 (-1), 3) := by decide +kernel
theorem dX1_plusShifted_127 : decode cX1_plusShifted 127 = .ok (.goto (-28), 3) := by decide +kernel
theorem dX1_plusShifted_130 : decode cX1_plusShifted 130 = .ok (.aload_n 0, 1) := by decide +kernel
theorem dX1_plusShifted_131 : decode cX1_plusShifted 131 = .ok (.iload 4, 2) := by decide +kernel
theorem dX1_plusShifted_133 : decode cX1_plusShifted 133 = .ok (.putfield 15, 3) := by decide +kernel
theorem dX1_plusShifted_136 : decode cX1_plusShifted 136 = .ok (.return_, 1) := by decide +kernel
theorem dX1_plusProduct_0 : decode cX1_plusProduct 0 = .ok (.iconst 0, 1) := by decide +kernel
theorem dX1_plusProduct_1 : decode cX1_plusProduct 1 = .ok (.istore 4, 2) := by decide +kernel
theorem dX1_plusProduct_3 : decode cX1_plusProduct 3 = .ok (.iload 4, 2) := by decide +kernel
theorem dX1_plusProduct_5 : decode cX1_plusProduct 5 = .ok (.aload_n 1, 1) := by decide +kernel
theorem dX1_plusProduct_6 : decode cX1_plusProduct 6 = .ok (.getfield 15, 3) := by decide +kernel
theorem dX1_plusProduct_9 : decode cX1_plusProduct 9 = .ok (.if_icmp .gt 37, 3) := by decide +kernel
theorem dX1_plusProduct_12 : decode cX1_plusProduct 12 = .ok (.aload_n 1, 1) := by decide +kernel
theorem dX1_plusProduct_13 : decode cX1_plusProduct 13 = .ok (.iload 4, 2) := by decide +kernel
theorem dX1_plusProduct_15 : decode cX1_plusProduct 15 = .ok (.invokevirtual 19, 3) := by decide +kernel
theorem dX1_plusProduct_18 : decode cX1_plusProduct 18 = .ok (.iload_n 3, 1) := by decide +kernel
theorem dX1_plusProduct_19 : decode cX1_plusProduct 19 = .ok (.imul, 1) := by decide +kernel
theorem dX1_plusProduct_20 : decode cX1_plusProduct 20 = .ok (.sipush 32003, 3) := by decide +kernel
theorem dX1_plusProduct_23 : decode cX1_plusProduct 23 = .ok (.irem, 1) := by decide +kernel
theorem dX1_plusProduct_24 : decode cX1_plusProduct 24 = .ok (.istore 5, 2) := by decide +kernel
theorem dX1_plusProduct_26 : decode cX1_plusProduct 26 = .ok (.iload 5, 2) := by decide +kernel
theorem dX1_plusProduct_28 : decode cX1_plusProduct 28 = .ok (.ifCond .eq 12, 3) := by decide +kernel
theorem dX1_plusProduct_31 : decode cX1_plusProduct 31 = .ok (.aload_n 0, 1) := by decide +kernel
theorem dX1_plusProduct_32 : decode cX1_plusProduct 32 = .ok (.aload_n 2, 1) := by decide +kernel
theorem dX1_plusProduct_33 : decode cX1_plusProduct 33 = .ok (.iload 5, 2) := by decide +kernel
theorem dX1_plusProduct_35 : decode cX1_plusProduct 35 = .ok (.iload 4, 2) := by decide +kernel
theorem dX1_plusProduct_37 : decode cX1_plusProduct 37 = .ok (.invokevirtual 27, 3) := by decide +kernel
theorem dX1_plusProduct_40 : decode cX1_plusProduct 40 = .ok (.iinc 4 1, 3) := by decide +kernel
theorem dX1_plusProduct_43 : decode cX1_plusProduct 43 = .ok (.goto (-40), 3) := by decide +kernel
theorem dX1_plusProduct_46 : decode cX1_plusProduct 46 = .ok (.return_, 1) := by decide +kernel
theorem dX1_plusSlopeProduct_0 : decode cX1_plusSlopeProduct 0 = .ok (.iconst 1, 1) := by decide +kernel
theorem dX1_plusSlopeProduct_1 : decode cX1_plusSlopeProduct 1 = .ok (.istore_n 3, 1) := by decide +kernel
theorem dX1_plusSlopeProduct_2 : decode cX1_plusSlopeProduct 2 = .ok (.iload_n 3, 1) := by decide +kernel
theorem dX1_plusSlopeProduct_3 : decode cX1_plusSlopeProduct 3 = .ok (.aload_n 1, 1) := by decide +kernel
theorem dX1_plusSlopeProduct_4 : decode cX1_plusSlopeProduct 4 = .ok (.getfield 15, 3) := by decide +kernel
theorem dX1_plusSlopeProduct_7 : decode cX1_plusSlopeProduct 7 = .ok (.if_icmp .gt 37, 3) := by decide +kernel
theorem dX1_plusSlopeProduct_10 : decode cX1_plusSlopeProduct 10 = .ok (.aload_n 1, 1) := by decide +kernel
theorem dX1_plusSlopeProduct_11 : decode cX1_plusSlopeProduct 11 = .ok (.iload_n 3, 1) := by decide +kernel
theorem dX1_plusSlopeProduct_12 : decode cX1_plusSlopeProduct 12 = .ok (.invokevirtual 19, 3) := by decide +kernel
theorem dX1_plusSlopeProduct_15 : decode cX1_plusSlopeProduct 15 = .ok (.iload_n 3, 1) := by decide +kernel
theorem dX1_plusSlopeProduct_16 : decode cX1_plusSlopeProduct 16 = .ok (.imul, 1) := by decide +kernel
theorem dX1_plusSlopeProduct_17 : decode cX1_plusSlopeProduct 17 = .ok (.sipush 32003, 3) := by decide +kernel
theorem dX1_plusSlopeProduct_20 : decode cX1_plusSlopeProduct 20 = .ok (.irem, 1) := by decide +kernel
theorem dX1_plusSlopeProduct_21 : decode cX1_plusSlopeProduct 21 = .ok (.istore 4, 2) := by decide +kernel
theorem dX1_plusSlopeProduct_23 : decode cX1_plusSlopeProduct 23 = .ok (.iload 4, 2) := by decide +kernel
theorem dX1_plusSlopeProduct_25 : decode cX1_plusSlopeProduct 25 = .ok (.ifCond .eq 13, 3) := by decide +kernel
theorem dX1_plusSlopeProduct_28 : decode cX1_plusSlopeProduct 28 = .ok (.aload_n 0, 1) := by decide +kernel
theorem dX1_plusSlopeProduct_29 : decode cX1_plusSlopeProduct 29 = .ok (.aload_n 2, 1) := by decide +kernel
theorem dX1_plusSlopeProduct_30 : decode cX1_plusSlopeProduct 30 = .ok (.iload 4, 2) := by decide +kernel
theorem dX1_plusSlopeProduct_32 : decode cX1_plusSlopeProduct 32 = .ok (.iload_n 3, 1) := by decide +kernel
theorem dX1_plusSlopeProduct_33 : decode cX1_plusSlopeProduct 33 = .ok (.iconst 1, 1) := by decide +kernel
theorem dX1_plusSlopeProduct_34 : decode cX1_plusSlopeProduct 34 = .ok (.isub, 1) := by decide +kernel
theorem dX1_plusSlopeProduct_35 : decode cX1_plusSlopeProduct 35 = .ok (.invokevirtual 27, 3) := by decide +kernel
theorem dX1_plusSlopeProduct_38 : decode cX1_plusSlopeProduct 38 = .ok (.iinc 3 1, 3) := by decide +kernel
theorem dX1_plusSlopeProduct_41 : decode cX1_plusSlopeProduct 41 = .ok (.goto (-39), 3) := by decide +kernel
theorem dX1_plusSlopeProduct_44 : decode cX1_plusSlopeProduct 44 = .ok (.return_, 1) := by decide +kernel
theorem dX1_timesRoot_0 : decode cX1_timesRoot 0 = .ok (.aload_n 0, 1) := by decide +kernel
theorem dX1_timesRoot_1 : decode cX1_timesRoot 1 = .ok (.getfield 15, 3) := by decide +kernel
theorem dX1_timesRoot_4 : decode cX1_timesRoot 4 = .ok (.iconst 1, 1) := by decide +kernel
theorem dX1_timesRoot_5 : decode cX1_timesRoot 5 = .ok (.iadd, 1) := by decide +kernel
theorem dX1_timesRoot_6 : decode cX1_timesRoot 6 = .ok (.istore_n 2, 1) := by decide +kernel
theorem dX1_timesRoot_7 : decode cX1_timesRoot 7 = .ok (.iload_n 2, 1) := by decide +kernel
theorem dX1_timesRoot_8 : decode cX1_timesRoot 8 = .ok (.ifCond .lt 37, 3) := by decide +kernel
theorem dX1_timesRoot_11 : decode cX1_timesRoot 11 = .ok (.aload_n 0, 1) := by decide +kernel
theorem dX1_timesRoot_12 : decode cX1_timesRoot 12 = .ok (.iload_n 2, 1) := by decide +kernel
theorem dX1_timesRoot_13 : decode cX1_timesRoot 13 = .ok (.aload_n 0, 1) := by decide +kernel
theorem dX1_timesRoot_14 : decode cX1_timesRoot 14 = .ok (.iload_n 2, 1) := by decide +kernel
theorem dX1_timesRoot_15 : decode cX1_timesRoot 15 = .ok (.iconst 1, 1) := by decide +kernel
theorem dX1_timesRoot_16 : decode cX1_timesRoot 16 = .ok (.isub, 1) := by decide +kernel
theorem dX1_timesRoot_17 : decode cX1_timesRoot 17 = .ok (.invokevirtual 19, 3) := by decide +kernel
theorem dX1_timesRoot_20 : decode cX1_timesRoot 20 = .ok (.sipush 32003, 3) := by decide +kernel
theorem dX1_timesRoot_23 : decode cX1_timesRoot 23 = .ok (.iload_n 1, 1) := by decide +kernel
theorem dX1_timesRoot_24 : decode cX1_timesRoot 24 = .ok (.isub, 1) := by decide +kernel
theorem dX1_timesRoot_25 : decode cX1_timesRoot 25 = .ok (.aload_n 0, 1) := by decide +kernel
theorem dX1_timesRoot_26 : decode cX1_timesRoot 26 = .ok (.iload_n 2, 1) := by decide +kernel
theorem dX1_timesRoot_27 : decode cX1_timesRoot 27 = .ok (.invokevirtual 19, 3) := by decide +kernel
theorem dX1_timesRoot_30 : decode cX1_timesRoot 30 = .ok (.imul, 1) := by decide +kernel
theorem dX1_timesRoot_31 : decode cX1_timesRoot 31 = .ok (.iadd, 1) := by decide +kernel
theorem dX1_timesRoot_32 : decode cX1_timesRoot 32 = .ok (.sipush 32003, 3) := by decide +kernel
theorem dX1_timesRoot_35 : decode cX1_timesRoot 35 = .ok (.irem, 1) := by decide +kernel
theorem dX1_timesRoot_36 : decode cX1_timesRoot 36 = .ok (.invokevirtual 23, 3) := by decide +kernel
theorem dX1_timesRoot_39 : decode cX1_timesRoot 39 = .ok (.iinc 2 (-1), 3) := by decide +kernel
theorem dX1_timesRoot_42 : decode cX1_timesRoot 42 = .ok (.goto (-35), 3) := by decide +kernel
theorem dX1_timesRoot_45 : decode cX1_timesRoot 45 = .ok (.return_, 1) := by decide +kernel
theorem dX1_divideBy_0 : decode cX1_divideBy 0 = .ok (.aload_n 2, 1) := by decide +kernel
theorem dX1_divideBy_1 : decode cX1_divideBy 1 = .ok (.invokevirtual 31, 3) := by decide +kernel
theorem dX1_divideBy_4 : decode cX1_divideBy 4 = .ok (.aload_n 1, 1) := by decide +kernel
theorem dX1_divideBy_5 : decode cX1_divideBy 5 = .ok (.getfield 15, 3) := by decide +kernel
theorem dX1_divideBy_8 : decode cX1_divideBy 8 = .ok (.ifCond .ge 4, 3) := by decide +kernel
theorem dX1_divideBy_11 : decode cX1_divideBy 11 = .ok (.return_, 1) := by decide +kernel
theorem dX1_divideBy_12 : decode cX1_divideBy 12 = .ok (.aload_n 1, 1) := by decide +kernel
theorem dX1_divideBy_13 : decode cX1_divideBy 13 = .ok (.aload_n 1, 1) := by decide +kernel
theorem dX1_divideBy_14 : decode cX1_divideBy 14 = .ok (.getfield 15, 3) := by decide +kernel
theorem dX1_divideBy_17 : decode cX1_divideBy 17 = .ok (.invokevirtual 19, 3) := by decide +kernel
theorem dX1_divideBy_20 : decode cX1_divideBy 20 = .ok (.invokestatic 34, 3) := by decide +kernel
theorem dX1_divideBy_23 : decode cX1_divideBy 23 = .ok (.istore_n 3, 1) := by decide +kernel
theorem dX1_divideBy_24 : decode cX1_divideBy 24 = .ok (.aload_n 0, 1) := by decide +kernel
theorem dX1_divideBy_25 : decode cX1_divideBy 25 = .ok (.getfield 15, 3) := by decide +kernel
theorem dX1_divideBy_28 : decode cX1_divideBy 28 = .ok (.aload_n 1, 1) := by decide +kernel
theorem dX1_divideBy_29 : decode cX1_divideBy 29 = .ok (.getfield 15, 3) := by decide +kernel
theorem dX1_divideBy_32 : decode cX1_divideBy 32 = .ok (.isub, 1) := by decide +kernel
theorem dX1_divideBy_33 : decode cX1_divideBy 33 = .ok (.istore 4, 2) := by decide +kernel
theorem dX1_divideBy_35 : decode cX1_divideBy 35 = .ok (.iload 4, 2) := by decide +kernel
theorem dX1_divideBy_37 : decode cX1_divideBy 37 = .ok (.ifCond .lt 54, 3) := by decide +kernel
theorem dX1_divideBy_40 : decode cX1_divideBy 40 = .ok (.aload_n 0, 1) := by decide +kernel
theorem dX1_divideBy_41 : decode cX1_divideBy 41 = .ok (.iload 4, 2) := by decide +kernel
theorem dX1_divideBy_43 : decode cX1_divideBy 43 = .ok (.aload_n 1, 1) := by decide +kernel
theorem dX1_divideBy_44 : decode cX1_divideBy 44 = .ok (.getfield 15, 3) := by decide +kernel
theorem dX1_divideBy_47 : decode cX1_divideBy 47 = .ok (.iadd, 1) := by decide +kernel
theorem dX1_divideBy_48 : decode cX1_divideBy 48 = .ok (.invokevirtual 19, 3) := by decide +kernel
theorem dX1_divideBy_51 : decode cX1_divideBy 51 = .ok (.iload_n 3, 1) := by decide +kernel
theorem dX1_divideBy_52 : decode cX1_divideBy 52 = .ok (.imul, 1) := by decide +kernel
theorem dX1_divideBy_53 : decode cX1_divideBy 53 = .ok (.sipush 32003, 3) := by decide +kernel
theorem dX1_divideBy_56 : decode cX1_divideBy 56 = .ok (.irem, 1) := by decide +kernel
theorem dX1_divideBy_57 : decode cX1_divideBy 57 = .ok (.istore 5, 2) := by decide +kernel
theorem dX1_divideBy_59 : decode cX1_divideBy 59 = .ok (.iload 5, 2) := by decide +kernel
theorem dX1_divideBy_61 : decode cX1_divideBy 61 = .ok (.ifCond .eq 24, 3) := by decide +kernel
theorem dX1_divideBy_64 : decode cX1_divideBy 64 = .ok (.aload_n 2, 1) := by decide +kernel
theorem dX1_divideBy_65 : decode cX1_divideBy 65 = .ok (.iload 4, 2) := by decide +kernel
theorem dX1_divideBy_67 : decode cX1_divideBy 67 = .ok (.iload 5, 2) := by decide +kernel
theorem dX1_divideBy_69 : decode cX1_divideBy 69 = .ok (.invokevirtual 23, 3) := by decide +kernel
theorem dX1_divideBy_72 : decode cX1_divideBy 72 = .ok (.aload_n 0, 1) := by decide +kernel
theorem dX1_divideBy_73 : decode cX1_divideBy 73 = .ok (.aload_n 1, 1) := by decide +kernel
theorem dX1_divideBy_74 : decode cX1_divideBy 74 = .ok (.sipush 32003, 3) := by decide +kernel
theorem dX1_divideBy_77 : decode cX1_divideBy 77 = .ok (.iload 5, 2) := by decide +kernel
theorem dX1_divideBy_79 : decode cX1_divideBy 79 = .ok (.isub, 1) := by decide +kernel
theorem dX1_divideBy_80 : decode cX1_divideBy 80 = .ok (.iload 4, 2) := by decide +kernel
theorem dX1_divideBy_82 : decode cX1_divideBy 82 = .ok (.invokevirtual 27, 3) := by decide +kernel
theorem dX1_divideBy_85 : decode cX1_divideBy 85 = .ok (.iinc 4 (-1), 3) := by decide +kernel
theorem dX1_divideBy_88 : decode cX1_divideBy 88 = .ok (.goto (-53), 3) := by decide +kernel
theorem dX1_divideBy_91 : decode cX1_divideBy 91 = .ok (.return_, 1) := by decide +kernel
theorem dX1_meet_0 : decode cX1_meet 0 = .ok (.iconst 0, 1) := by decide +kernel
theorem dX1_meet_1 : decode cX1_meet 1 = .ok (.istore_n 3, 1) := by decide +kernel
theorem dX1_meet_2 : decode cX1_meet 2 = .ok (.iload_n 3, 1) := by decide +kernel
theorem dX1_meet_3 : decode cX1_meet 3 = .ok (.bipush 104, 2) := by decide +kernel
theorem dX1_meet_5 : decode cX1_meet 5 = .ok (.if_icmp .ge 27, 3) := by decide +kernel
theorem dX1_meet_8 : decode cX1_meet 8 = .ok (.aload_n 1, 1) := by decide +kernel
theorem dX1_meet_9 : decode cX1_meet 9 = .ok (.getfield 15, 3) := by decide +kernel
theorem dX1_meet_12 : decode cX1_meet 12 = .ok (.ifCond .lt 20, 3) := by decide +kernel
theorem dX1_meet_15 : decode cX1_meet 15 = .ok (.aload_n 0, 1) := by decide +kernel
theorem dX1_meet_16 : decode cX1_meet 16 = .ok (.aload_n 1, 1) := by decide +kernel
theorem dX1_meet_17 : decode cX1_meet 17 = .ok (.aload_n 2, 1) := by decide +kernel
theorem dX1_meet_18 : decode cX1_meet 18 = .ok (.invokevirtual 37, 3) := by decide +kernel
theorem dX1_meet_21 : decode cX1_meet 21 = .ok (.aload_n 0, 1) := by decide +kernel
theorem dX1_meet_22 : decode cX1_meet 22 = .ok (.aload_n 1, 1) := by decide +kernel
theorem dX1_meet_23 : decode cX1_meet 23 = .ok (.invokevirtual 41, 3) := by decide +kernel
theorem dX1_meet_26 : decode cX1_meet 26 = .ok (.iinc 3 1, 3) := by decide +kernel
theorem dX1_meet_29 : decode cX1_meet 29 = .ok (.goto (-27), 3) := by decide +kernel
theorem dX1_meet_32 : decode cX1_meet 32 = .ok (.aload_n 0, 1) := by decide +kernel
theorem dX1_meet_33 : decode cX1_meet 33 = .ok (.aload_n 0, 1) := by decide +kernel
theorem dX1_meet_34 : decode cX1_meet 34 = .ok (.aload_n 0, 1) := by decide +kernel
theorem dX1_meet_35 : decode cX1_meet 35 = .ok (.getfield 15, 3) := by decide +kernel
theorem dX1_meet_38 : decode cX1_meet 38 = .ok (.invokevirtual 19, 3) := by decide +kernel
theorem dX1_meet_41 : decode cX1_meet 41 = .ok (.invokestatic 34, 3) := by decide +kernel
theorem dX1_meet_44 : decode cX1_meet 44 = .ok (.invokevirtual 45, 3) := by decide +kernel
theorem dX1_meet_47 : decode cX1_meet 47 = .ok (.return_, 1) := by decide +kernel
theorem dX1_exchange_0 : decode cX1_exchange 0 = .ok (.aload_n 1, 1) := by decide +kernel
theorem dX1_exchange_1 : decode cX1_exchange 1 = .ok (.getfield 9, 3) := by decide +kernel
theorem dX1_exchange_4 : decode cX1_exchange 4 = .ok (.astore_n 2, 1) := by decide +kernel
theorem dX1_exchange_5 : decode cX1_exchange 5 = .ok (.aload_n 1, 1) := by decide +kernel
theorem dX1_exchange_6 : decode cX1_exchange 6 = .ok (.getfield 15, 3) := by decide +kernel
theorem dX1_exchange_9 : decode cX1_exchange 9 = .ok (.istore_n 3, 1) := by decide +kernel
theorem dX1_exchange_10 : decode cX1_exchange 10 = .ok (.aload_n 1, 1) := by decide +kernel
theorem dX1_exchange_11 : decode cX1_exchange 11 = .ok (.aload_n 0, 1) := by decide +kernel
theorem dX1_exchange_12 : decode cX1_exchange 12 = .ok (.getfield 9, 3) := by decide +kernel
theorem dX1_exchange_15 : decode cX1_exchange 15 = .ok (.putfield 9, 3) := by decide +kernel
theorem dX1_exchange_18 : decode cX1_exchange 18 = .ok (.aload_n 1, 1) := by decide +kernel
theorem dX1_exchange_19 : decode cX1_exchange 19 = .ok (.aload_n 0, 1) := by decide +kernel
theorem dX1_exchange_20 : decode cX1_exchange 20 = .ok (.getfield 15, 3) := by decide +kernel
theorem dX1_exchange_23 : decode cX1_exchange 23 = .ok (.putfield 15, 3) := by decide +kernel
theorem dX1_exchange_26 : decode cX1_exchange 26 = .ok (.aload_n 0, 1) := by decide +kernel
theorem dX1_exchange_27 : decode cX1_exchange 27 = .ok (.aload_n 2, 1) := by decide +kernel
theorem dX1_exchange_28 : decode cX1_exchange 28 = .ok (.putfield 9, 3) := by decide +kernel
theorem dX1_exchange_31 : decode cX1_exchange 31 = .ok (.aload_n 0, 1) := by decide +kernel
theorem dX1_exchange_32 : decode cX1_exchange 32 = .ok (.iload_n 3, 1) := by decide +kernel
theorem dX1_exchange_33 : decode cX1_exchange 33 = .ok (.putfield 15, 3) := by decide +kernel
theorem dX1_exchange_36 : decode cX1_exchange 36 = .ok (.return_, 1) := by decide +kernel
