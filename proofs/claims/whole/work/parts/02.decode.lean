theorem dX0_init_0 : decode cX0_init 0 = .ok (.aload_n 0, 1) := by decide +kernel
theorem dX0_init_1 : decode cX0_init 1 = .ok (.invokespecial 3, 3) := by decide +kernel
theorem dX0_init_4 : decode cX0_init 4 = .ok (.aload_n 0, 1) := by decide +kernel
theorem dX0_init_5 : decode cX0_init 5 = .ok (.bipush 12, 2) := by decide +kernel
theorem dX0_init_7 : decode cX0_init 7 = .ok (.newarray .int, 2) := by decide +kernel
theorem dX0_init_9 : decode cX0_init 9 = .ok (.putfield 9, 3) := by decide +kernel
theorem dX0_init_12 : decode cX0_init 12 = .ok (.aload_n 0, 1) := by decide +kernel
theorem dX0_init_13 : decode cX0_init 13 = .ok (.bipush 8, 2) := by decide +kernel
theorem dX0_init_15 : decode cX0_init 15 = .ok (.newarray .int, 2) := by decide +kernel
theorem dX0_init_17 : decode cX0_init 17 = .ok (.putfield 15, 3) := by decide +kernel
theorem dX0_init_20 : decode cX0_init 20 = .ok (.aload_n 0, 1) := by decide +kernel
theorem dX0_init_21 : decode cX0_init 21 = .ok (.iload_n 1, 1) := by decide +kernel
theorem dX0_init_22 : decode cX0_init 22 = .ok (.putfield 18, 3) := by decide +kernel
theorem dX0_init_25 : decode cX0_init 25 = .ok (.aload_n 0, 1) := by decide +kernel
theorem dX0_init_26 : decode cX0_init 26 = .ok (.iload_n 2, 1) := by decide +kernel
theorem dX0_init_27 : decode cX0_init 27 = .ok (.putfield 22, 3) := by decide +kernel
theorem dX0_init_30 : decode cX0_init 30 = .ok (.return_, 1) := by decide +kernel
theorem dX0_setIron_0 : decode cX0_setIron 0 = .ok (.aload_n 0, 1) := by decide +kernel
theorem dX0_setIron_1 : decode cX0_setIron 1 = .ok (.iload_n 1, 1) := by decide +kernel
theorem dX0_setIron_2 : decode cX0_setIron 2 = .ok (.putfield 25, 3) := by decide +kernel
theorem dX0_setIron_5 : decode cX0_setIron 5 = .ok (.aload_n 0, 1) := by decide +kernel
theorem dX0_setIron_6 : decode cX0_setIron 6 = .ok (.iload_n 2, 1) := by decide +kernel
theorem dX0_setIron_7 : decode cX0_setIron 7 = .ok (.putfield 28, 3) := by decide +kernel
theorem dX0_setIron_10 : decode cX0_setIron 10 = .ok (.return_, 1) := by decide +kernel
theorem dX0_heatOnce_0 : decode cX0_heatOnce 0 = .ok (.aload_n 0, 1) := by decide +kernel
theorem dX0_heatOnce_1 : decode cX0_heatOnce 1 = .ok (.aload_n 0, 1) := by decide +kernel
theorem dX0_heatOnce_2 : decode cX0_heatOnce 2 = .ok (.getfield 25, 3) := by decide +kernel
theorem dX0_heatOnce_5 : decode cX0_heatOnce 5 = .ok (.i2l, 1) := by decide +kernel
theorem dX0_heatOnce_6 : decode cX0_heatOnce 6 = .ok (.ldc2_w 31, 3) := by decide +kernel
theorem dX0_heatOnce_9 : decode cX0_heatOnce 9 = .ok (.lmul, 1) := by decide +kernel
theorem dX0_heatOnce_10 : decode cX0_heatOnce 10 = .ok (.ldc2_w 33, 3) := by decide +kernel
theorem dX0_heatOnce_13 : decode cX0_heatOnce 13 = .ok (.ldiv, 1) := by decide +kernel
theorem dX0_heatOnce_14 : decode cX0_heatOnce 14 = .ok (.l2i, 1) := by decide +kernel
theorem dX0_heatOnce_15 : decode cX0_heatOnce 15 = .ok (.putfield 25, 3) := by decide +kernel
theorem dX0_heatOnce_18 : decode cX0_heatOnce 18 = .ok (.aload_n 0, 1) := by decide +kernel
theorem dX0_heatOnce_19 : decode cX0_heatOnce 19 = .ok (.aload_n 0, 1) := by decide +kernel
theorem dX0_heatOnce_20 : decode cX0_heatOnce 20 = .ok (.getfield 28, 3) := by decide +kernel
theorem dX0_heatOnce_23 : decode cX0_heatOnce 23 = .ok (.i2l, 1) := by decide +kernel
theorem dX0_heatOnce_24 : decode cX0_heatOnce 24 = .ok (.ldc2_w 35, 3) := by decide +kernel
theorem dX0_heatOnce_27 : decode cX0_heatOnce 27 = .ok (.lmul, 1) := by decide +kernel
theorem dX0_heatOnce_28 : decode cX0_heatOnce 28 = .ok (.ldc2_w 35, 3) := by decide +kernel
theorem dX0_heatOnce_31 : decode cX0_heatOnce 31 = .ok (.ladd, 1) := by decide +kernel
theorem dX0_heatOnce_32 : decode cX0_heatOnce 32 = .ok (.ldc2_w 33, 3) := by decide +kernel
theorem dX0_heatOnce_35 : decode cX0_heatOnce 35 = .ok (.ldiv, 1) := by decide +kernel
theorem dX0_heatOnce_36 : decode cX0_heatOnce 36 = .ok (.l2i, 1) := by decide +kernel
theorem dX0_heatOnce_37 : decode cX0_heatOnce 37 = .ok (.putfield 28, 3) := by decide +kernel
theorem dX0_heatOnce_40 : decode cX0_heatOnce 40 = .ok (.aload_n 0, 1) := by decide +kernel
theorem dX0_heatOnce_41 : decode cX0_heatOnce 41 = .ok (.dup, 1) := by decide +kernel
theorem dX0_heatOnce_42 : decode cX0_heatOnce 42 = .ok (.getfield 37, 3) := by decide +kernel
theorem dX0_heatOnce_45 : decode cX0_heatOnce 45 = .ok (.iconst 1, 1) := by decide +kernel
theorem dX0_heatOnce_46 : decode cX0_heatOnce 46 = .ok (.iadd, 1) := by decide +kernel
theorem dX0_heatOnce_47 : decode cX0_heatOnce 47 = .ok (.putfield 37, 3) := by decide +kernel
theorem dX0_heatOnce_50 : decode cX0_heatOnce 50 = .ok (.return_, 1) := by decide +kernel
theorem dX0_sortNow_0 : decode cX0_sortNow 0 = .ok (.iconst 0, 1) := by decide +kernel
theorem dX0_sortNow_1 : decode cX0_sortNow 1 = .ok (.aload_n 0, 1) := by decide +kernel
theorem dX0_sortNow_2 : decode cX0_sortNow 2 = .ok (.getfield 18, 3) := by decide +kernel
theorem dX0_sortNow_5 : decode cX0_sortNow 5 = .ok (.aload_n 0, 1) := by decide +kernel
theorem dX0_sortNow_6 : decode cX0_sortNow 6 = .ok (.getfield 37, 3) := by decide +kernel
theorem dX0_sortNow_9 : decode cX0_sortNow 9 = .ok (.iconst 2, 1) := by decide +kernel
theorem dX0_sortNow_10 : decode cX0_sortNow 10 = .ok (.idiv, 1) := by decide +kernel
theorem dX0_sortNow_11 : decode cX0_sortNow 11 = .ok (.isub, 1) := by decide +kernel
theorem dX0_sortNow_12 : decode cX0_sortNow 12 = .ok (.invokestatic 40, 3) := by decide +kernel
theorem dX0_sortNow_15 : decode cX0_sortNow 15 = .ok (.ireturn, 1) := by decide +kernel
theorem dX1_init_0 : decode cX1_init 0 = .ok (.aload_n 0, 1) := by decide +kernel
theorem dX1_init_1 : decode cX1_init 1 = .ok (.invokespecial 3, 3) := by decide +kernel
theorem dX1_init_4 : decode cX1_init 4 = .ok (.aload_n 0, 1) := by decide +kernel
theorem dX1_init_5 : decode cX1_init 5 = .ok (.sipush 1000, 3) := by decide +kernel
theorem dX1_init_8 : decode cX1_init 8 = .ok (.putfield 9, 3) := by decide +kernel
theorem dX1_init_11 : decode cX1_init 11 = .ok (.aload_n 0, 1) := by decide +kernel
theorem dX1_init_12 : decode cX1_init 12 = .ok (.iconst (-1), 1) := by decide +kernel
theorem dX1_init_13 : decode cX1_init 13 = .ok (.putfield 15, 3) := by decide +kernel
theorem dX1_init_16 : decode cX1_init 16 = .ok (.aload_n 0, 1) := by decide +kernel
theorem dX1_init_17 : decode cX1_init 17 = .ok (.iload_n 1, 1) := by decide +kernel
theorem dX1_init_18 : decode cX1_init 18 = .ok (.putfield 18, 3) := by decide +kernel
theorem dX1_init_21 : decode cX1_init 21 = .ok (.aload_n 0, 1) := by decide +kernel
theorem dX1_init_22 : decode cX1_init 22 = .ok (.iload_n 2, 1) := by decide +kernel
theorem dX1_init_23 : decode cX1_init 23 = .ok (.putfield 21, 3) := by decide +kernel
theorem dX1_init_26 : decode cX1_init 26 = .ok (.aload_n 0, 1) := by decide +kernel
theorem dX1_init_27 : decode cX1_init 27 = .ok (.iload_n 3, 1) := by decide +kernel
theorem dX1_init_28 : decode cX1_init 28 = .ok (.putfield 24, 3) := by decide +kernel
theorem dX1_init_31 : decode cX1_init 31 = .ok (.return_, 1) := by decide +kernel
theorem dX1_narrow_0 : decode cX1_narrow 0 = .ok (.iload_n 1, 1) := by decide +kernel
theorem dX1_narrow_1 : decode cX1_narrow 1 = .ok (.aload_n 0, 1) := by decide +kernel
theorem dX1_narrow_2 : decode cX1_narrow 2 = .ok (.getfield 9, 3) := by decide +kernel
theorem dX1_narrow_5 : decode cX1_narrow 5 = .ok (.if_icmp .gt 11, 3) := by decide +kernel
theorem dX1_narrow_8 : decode cX1_narrow 8 = .ok (.iload_n 2, 1) := by decide +kernel
theorem dX1_narrow_9 : decode cX1_narrow 9 = .ok (.aload_n 0, 1) := by decide +kernel
theorem dX1_narrow_10 : decode cX1_narrow 10 = .ok (.getfield 27, 3) := by decide +kernel
theorem dX1_narrow_13 : decode cX1_narrow 13 = .ok (.if_icmp .ge 5, 3) := by decide +kernel
theorem dX1_narrow_16 : decode cX1_narrow 16 = .ok (.iconst 0, 1) := by decide +kernel
theorem dX1_narrow_17 : decode cX1_narrow 17 = .ok (.ireturn, 1) := by decide +kernel
theorem dX1_narrow_18 : decode cX1_narrow 18 = .ok (.aload_n 0, 1) := by decide +kernel
theorem dX1_narrow_19 : decode cX1_narrow 19 = .ok (.aload_n 0, 1) := by decide +kernel
theorem dX1_narrow_20 : decode cX1_narrow 20 = .ok (.getfield 27, 3) := by decide +kernel
theorem dX1_narrow_23 : decode cX1_narrow 23 = .ok (.iload_n 1, 1) := by decide +kernel
theorem dX1_narrow_24 : decode cX1_narrow 24 = .ok (.invokestatic 30, 3) := by decide +kernel
theorem dX1_narrow_27 : decode cX1_narrow 27 = .ok (.putfield 27, 3) := by decide +kernel
theorem dX1_narrow_30 : decode cX1_narrow 30 = .ok (.aload_n 0, 1) := by decide +kernel
theorem dX1_narrow_31 : decode cX1_narrow 31 = .ok (.aload_n 0, 1) := by decide +kernel
theorem dX1_narrow_32 : decode cX1_narrow 32 = .ok (.getfield 9, 3) := by decide +kernel
theorem dX1_narrow_35 : decode cX1_narrow 35 = .ok (.iload_n 2, 1) := by decide +kernel
theorem dX1_narrow_36 : decode cX1_narrow 36 = .ok (.invokestatic 36, 3) := by decide +kernel
theorem dX1_narrow_39 : decode cX1_narrow 39 = .ok (.putfield 9, 3) := by decide +kernel
theorem dX1_narrow_42 : decode cX1_narrow 42 = .ok (.iconst 1, 1) := by decide +kernel
theorem dX1_narrow_43 : decode cX1_narrow 43 = .ok (.ireturn, 1) := by decide +kernel
theorem dX1_restsIn_0 : decode cX1_restsIn 0 = .ok (.aload_n 0, 1) := by decide +kernel
theorem dX1_restsIn_1 : decode cX1_restsIn 1 = .ok (.getfield 15, 3) := by decide +kernel
theorem dX1_restsIn_4 : decode cX1_restsIn 4 = .ok (.iconst (-1), 1) := by decide +kernel
theorem dX1_restsIn_5 : decode cX1_restsIn 5 = .ok (.if_icmp .eq 28, 3) := by decide +kernel
theorem dX1_restsIn_8 : decode cX1_restsIn 8 = .ok (.aload_n 0, 1) := by decide +kernel
theorem dX1_restsIn_9 : decode cX1_restsIn 9 = .ok (.getfield 15, 3) := by decide +kernel
theorem dX1_restsIn_12 : decode cX1_restsIn 12 = .ok (.iload_n 1, 1) := by decide +kernel
theorem dX1_restsIn_13 : decode cX1_restsIn 13 = .ok (.if_icmp .eq 20, 3) := by decide +kernel
theorem dX1_restsIn_16 : decode cX1_restsIn 16 = .ok (.iload_n 1, 1) := by decide +kernel
theorem dX1_restsIn_17 : decode cX1_restsIn 17 = .ok (.aload_n 0, 1) := by decide +kernel
theorem dX1_restsIn_18 : decode cX1_restsIn 18 = .ok (.getfield 15, 3) := by decide +kernel
theorem dX1_restsIn_21 : decode cX1_restsIn 21 = .ok (.isub, 1) := by decide +kernel
theorem dX1_restsIn_22 : decode cX1_restsIn 22 = .ok (.aload_n 0, 1) := by decide +kernel
theorem dX1_restsIn_23 : decode cX1_restsIn 23 = .ok (.getfield 24, 3) := by decide +kernel
theorem dX1_restsIn_26 : decode cX1_restsIn 26 = .ok (.if_icmp .ge 7, 3) := by decide +kernel
theorem dX1_restsIn_29 : decode cX1_restsIn 29 = .ok (.iconst 1, 1) := by decide +kernel
theorem dX1_restsIn_30 : decode cX1_restsIn 30 = .ok (.goto 4, 3) := by decide +kernel
theorem dX1_restsIn_33 : decode cX1_restsIn 33 = .ok (.iconst 0, 1) := by decide +kernel
theorem dX1_restsIn_34 : decode cX1_restsIn 34 = .ok (.ireturn, 1) := by decide +kernel
theorem dX1_grow_0 : decode cX1_grow 0 = .ok (.aload_n 0, 1) := by decide +kernel
theorem dX1_grow_1 : decode cX1_grow 1 = .ok (.ldc 39, 2) := by decide +kernel
theorem dX1_grow_3 : decode cX1_grow 3 = .ok (.aload_n 0, 1) := by decide +kernel
theorem dX1_grow_4 : decode cX1_grow 4 = .ok (.getfield 18, 3) := by decide +kernel
theorem dX1_grow_7 : decode cX1_grow 7 = .ok (.aload_n 0, 1) := by decide +kernel
theorem dX1_grow_8 : decode cX1_grow 8 = .ok (.getfield 21, 3) := by decide +kernel
theorem dX1_grow_11 : decode cX1_grow 11 = .ok (.iadd, 1) := by decide +kernel
theorem dX1_grow_12 : decode cX1_grow 12 = .ok (.invokestatic 36, 3) := by decide +kernel
theorem dX1_grow_15 : decode cX1_grow 15 = .ok (.putfield 18, 3) := by decide +kernel
theorem dX1_grow_18 : decode cX1_grow 18 = .ok (.return_, 1) := by decide +kernel
theorem dX2_init_0 : decode cX2_init 0 = .ok (.aload_n 0, 1) := by decide +kernel
theorem dX2_init_1 : decode cX2_init 1 = .ok (.invokespecial 3, 3) := by decide +kernel
theorem dX2_init_4 : decode cX2_init 4 = .ok (.aload_n 0, 1) := by decide +kernel
theorem dX2_init_5 : decode cX2_init 5 = .ok (.bipush 40, 2) := by decide +kernel
theorem dX2_init_7 : decode cX2_init 7 = .ok (.newarray .int, 2) := by decide +kernel
theorem dX2_init_9 : decode cX2_init 9 = .ok (.putfield 9, 3) := by decide +kernel
theorem dX2_init_12 : decode cX2_init 12 = .ok (.aload_n 0, 1) := by decide +kernel
theorem dX2_init_13 : decode cX2_init 13 = .ok (.bipush 40, 2) := by decide +kernel
theorem dX2_init_15 : decode cX2_init 15 = .ok (.newarray .int, 2) := by decide +kernel
theorem dX2_init_17 : decode cX2_init 17 = .ok (.putfield 15, 3) := by decide +kernel
theorem dX2_init_20 : decode cX2_init 20 = .ok (.aload_n 0, 1) := by decide +kernel
theorem dX2_init_21 : decode cX2_init 21 = .ok (.bipush 40, 2) := by decide +kernel
theorem dX2_init_23 : decode cX2_init 23 = .ok (.newarray .int, 2) := by decide +kernel
theorem dX2_init_25 : decode cX2_init 25 = .ok (.putfield 18, 3) := by decide +kernel
theorem dX2_init_28 : decode cX2_init 28 = .ok (.aload_n 0, 1) := by decide +kernel
theorem dX2_init_29 : decode cX2_init 29 = .ok (.bipush 40, 2) := by decide +kernel
theorem dX2_init_31 : decode cX2_init 31 = .ok (.newarray .int, 2) := by decide +kernel
theorem dX2_init_33 : decode cX2_init 33 = .ok (.putfield 21, 3) := by decide +kernel
theorem dX2_init_36 : decode cX2_init 36 = .ok (.return_, 1) := by decide +kernel
theorem dX2_learn_0 : decode cX2_learn 0 = .ok (.aload_n 0, 1) := by decide +kernel
theorem dX2_learn_1 : decode cX2_learn 1 = .ok (.iconst 0, 1) := by decide +kernel
theorem dX2_learn_2 : decode cX2_learn 2 = .ok (.putfield 24, 3) := by decide +kernel
theorem dX2_learn_5 : decode cX2_learn 5 = .ok (.iconst 0, 1) := by decide +kernel
theorem dX2_learn_6 : decode cX2_learn 6 = .ok (.istore_n 2, 1) := by decide +kernel
theorem dX2_learn_7 : decode cX2_learn 7 = .ok (.iconst 0, 1) := by decide +kernel
theorem dX2_learn_8 : decode cX2_learn 8 = .ok (.istore_n 3, 1) := by decide +kernel
theorem dX2_learn_9 : decode cX2_learn 9 = .ok (.iload_n 3, 1) := by decide +kernel
theorem dX2_learn_10 : decode cX2_learn 10 = .ok (.aload_n 1, 1) := by decide +kernel
theorem dX2_learn_11 : decode cX2_learn 11 = .ok (.getfield 28, 3) := by decide +kernel
theorem dX2_learn_14 : decode cX2_learn 14 = .ok (.if_icmp .ge 60, 3) := by decide +kernel
theorem dX2_learn_17 : decode cX2_learn 17 = .ok (.aload_n 1, 1) := by decide +kernel
theorem dX2_learn_18 : decode cX2_learn 18 = .ok (.iload_n 3, 1) := by decide +kernel
theorem dX2_learn_19 : decode cX2_learn 19 = .ok (.invokevirtual 33, 3) := by decide +kernel
theorem dX2_learn_22 : decode cX2_learn 22 = .ok (.istore 4, 2) := by decide +kernel
theorem dX2_learn_24 : decode cX2_learn 24 = .ok (.iload 4, 2) := by decide +kernel
theorem dX2_learn_26 : decode cX2_learn 26 = .ok (.invokestatic 37, 3) := by decide +kernel
theorem dX2_learn_29 : decode cX2_learn 29 = .ok (.ifCond .eq 14, 3) := by decide +kernel
theorem dX2_learn_32 : decode cX2_learn 32 = .ok (.aload_n 0, 1) := by decide +kernel
theorem dX2_learn_33 : decode cX2_learn 33 = .ok (.iload 4, 2) := by decide +kernel
theorem dX2_learn_35 : decode cX2_learn 35 = .ok (.invokevirtual 41, 3) := by decide +kernel
theorem dX2_learn_38 : decode cX2_learn 38 = .ok (.iconst 0, 1) := by decide +kernel
theorem dX2_learn_39 : decode cX2_learn 39 = .ok (.istore_n 2, 1) := by decide +kernel
theorem dX2_learn_40 : decode cX2_learn 40 = .ok (.goto 28, 3) := by decide +kernel
theorem dX2_learn_43 : decode cX2_learn 43 = .ok (.iload 4, 2) := by decide +kernel
theorem dX2_learn_45 : decode cX2_learn 45 = .ok (.bipush 58, 2) := by decide +kernel
theorem dX2_learn_47 : decode cX2_learn 47 = .ok (.if_icmp .ne 8, 3) := by decide +kernel
theorem dX2_learn_50 : decode cX2_learn 50 = .ok (.iconst 1, 1) := by decide +kernel
theorem dX2_learn_51 : decode cX2_learn 51 = .ok (.istore_n 2, 1) := by decide +kernel
theorem dX2_learn_52 : decode cX2_learn 52 = .ok (.goto 16, 3) := by decide +kernel
theorem dX2_learn_55 : decode cX2_learn 55 = .ok (.aload_n 0, 1) := by decide +kernel
theorem dX2_learn_56 : decode cX2_learn 56 = .ok (.aload_n 0, 1) := by decide +kernel
theorem dX2_learn_57 : decode cX2_learn 57 = .ok (.getfield 24, 3) := by decide +kernel
theorem dX2_learn_60 : decode cX2_learn 60 = .ok (.iconst 1, 1) := by decide +kernel
theorem dX2_learn_61 : decode cX2_learn 61 = .ok (.isub, 1) := by decide +kernel
theorem dX2_learn_62 : decode cX2_learn 62 = .ok (.iload 4, 2) := by decide +kernel
theorem dX2_learn_64 : decode cX2_learn 64 = .ok (.iload_n 2, 1) := by decide +kernel
theorem dX2_learn_65 : decode cX2_learn 65 = .ok (.invokevirtual 45, 3) := by decide +kernel
theorem dX2_learn_68 : decode cX2_learn 68 = .ok (.iinc 3 1, 3) := by decide +kernel
theorem dX2_learn_71 : decode cX2_learn 71 = .ok (.goto (-62), 3) := by decide +kernel
theorem dX2_learn_74 : decode cX2_learn 74 = .ok (.return_, 1) := by decide +kernel
theorem dX2_open_0 : decode cX2_open 0 = .ok (.aload_n 0, 1) := by decide +kernel
theorem dX2_open_1 : decode cX2_open 1 = .ok (.getfield 24, 3) := by decide +kernel
theorem dX2_open_4 : decode cX2_open 4 = .ok (.aload_n 0, 1) := by decide +kernel
theorem dX2_open_5 : decode cX2_open 5 = .ok (.getfield 9, 3) := by decide +kernel
theorem dX2_open_8 : decode cX2_open 8 = .ok (.arraylength, 1) := by decide +kernel
theorem dX2_open_9 : decode cX2_open 9 = .ok (.if_icmp .ge 33, 3) := by decide +kernel
theorem dX2_open_12 : decode cX2_open 12 = .ok (.aload_n 0, 1) := by decide +kernel
theorem dX2_open_13 : decode cX2_open 13 = .ok (.getfield 9, 3) := by decide +kernel
theorem dX2_open_16 : decode cX2_open 16 = .ok (.aload_n 0, 1) := by decide +kernel
theorem dX2_open_17 : decode cX2_open 17 = .ok (.getfield 24, 3) := by decide +kernel
theorem dX2_open_20 : decode cX2_open 20 = .ok (.iload_n 1, 1) := by decide +kernel
theorem dX2_open_21 : decode cX2_open 21 = .ok (.iastore, 1) := by decide +kernel
theorem dX2_open_22 : decode cX2_open 22 = .ok (.aload_n 0, 1) := by decide +kernel
theorem dX2_open_23 : decode cX2_open 23 = .ok (.getfield 18, 3) := by decide +kernel
theorem dX2_open_26 : decode cX2_open 26 = .ok (.aload_n 0, 1) := by decide +kernel
theorem dX2_open_27 : decode cX2_open 27 = .ok (.getfield 24, 3) := by decide +kernel
theorem dX2_open_30 : decode cX2_open 30 = .ok (.iconst 0, 1) := by decide +kernel
theorem dX2_open_31 : decode cX2_open 31 = .ok (.iastore, 1) := by decide +kernel
theorem dX2_open_32 : decode cX2_open 32 = .ok (.aload_n 0, 1) := by decide +kernel
theorem dX2_open_33 : decode cX2_open 33 = .ok (.dup, 1) := by decide +kernel
theorem dX2_open_34 : decode cX2_open 34 = .ok (.getfield 24, 3) := by decide +kernel
theorem dX2_open_37 : decode cX2_open 37 = .ok (.iconst 1, 1) := by decide +kernel
theorem dX2_open_38 : decode cX2_open 38 = .ok (.iadd, 1) := by decide +kernel
theorem dX2_open_39 : decode cX2_open 39 = .ok (.putfield 24, 3) := by decide +kernel
theorem dX2_open_42 : decode cX2_open 42 = .ok (.return_, 1) := by decide +kernel
theorem dX2_learnWithin_0 : decode cX2_learnWithin 0 = .ok (.iload_n 1, 1) := by decide +kernel
theorem dX2_learnWithin_1 : decode cX2_learnWithin 1 = .ok (.ifCond .lt 12, 3) := by decide +kernel
theorem dX2_learnWithin_4 : decode cX2_learnWithin 4 = .ok (.iload_n 1, 1) := by decide +kernel
theorem dX2_learnWithin_5 : decode cX2_learnWithin 5 = .ok (.aload_n 0, 1) := by decide +kernel
theorem dX2_learnWithin_6 : decode cX2_learnWithin 6 = .ok (.getfield 9, 3) := by decide +kernel
theorem dX2_learnWithin_9 : decode cX2_learnWithin 9 = .ok (.arraylength, 1) := by decide +kernel
theorem dX2_learnWithin_10 : decode cX2_learnWithin 10 = .ok (.if_icmp .lt 4, 3) := by decide +kernel
theorem dX2_learnWithin_13 : decode cX2_learnWithin 13 = .ok (.return_, 1) := by decide +kernel
theorem dX2_learnWithin_14 : decode cX2_learnWithin 14 = .ok (.iload_n 2, 1) := by decide +kernel
theorem dX2_learnWithin_15 : decode cX2_learnWithin 15 = .ok (.invokestatic 49, 3) := by decide +kernel
theorem dX2_learnWithin_18 : decode cX2_learnWithin 18 = .ok (.ifCond .eq 13, 3) := by decide +kernel
theorem dX2_learnWithin_21 : decode cX2_learnWithin 21 = .ok (.aload_n 0, 1) := by decide +kernel
theorem dX2_learnWithin_22 : decode cX2_learnWithin 22 = .ok (.getfield 15, 3) := by decide +kernel
theorem dX2_learnWithin_25 : decode cX2_learnWithin 25 = .ok (.iload_n 1, 1) := by decide +kernel
theorem dX2_learnWithin_26 : decode cX2_learnWithin 26 = .ok (.iload_n 2, 1) := by decide +kernel
theorem dX2_learnWithin_27 : decode cX2_learnWithin 27 = .ok (.iastore, 1) := by decide +kernel
theorem dX2_learnWithin_28 : decode cX2_learnWithin 28 = .ok (.goto 54, 3) := by decide +kernel
theorem dX2_learnWithin_31 : decode cX2_learnWithin 31 = .ok (.iload_n 2, 1) := by decide +kernel
theorem dX2_learnWithin_32 : decode cX2_learnWithin 32 = .ok (.invokestatic 52, 3) := by decide +kernel
theorem dX2_learnWithin_35 : decode cX2_learnWithin 35 = .ok (.ifCond .eq 20, 3) := by decide +kernel
theorem dX2_learnWithin_38 : decode cX2_learnWithin 38 = .ok (.iload_n 3, 1) := by decide +kernel
theorem dX2_learnWithin_39 : decode cX2_learnWithin 39 = .ok (.ifCond .eq 16, 3) := by decide +kernel
theorem dX2_learnWithin_42 : decode cX2_learnWithin 42 = .ok (.aload_n 0, 1) := by decide +kernel
theorem dX2_learnWithin_43 : decode cX2_learnWithin 43 = .ok (.getfield 21, 3) := by decide +kernel
theorem dX2_learnWithin_46 : decode cX2_learnWithin 46 = .ok (.iload_n 1, 1) := by decide +kernel
theorem dX2_learnWithin_47 : decode cX2_learnWithin 47 = .ok (.iload_n 2, 1) := by decide +kernel
theorem dX2_learnWithin_48 : decode cX2_learnWithin 48 = .ok (.bipush 48, 2) := by decide +kernel
theorem dX2_learnWithin_50 : decode cX2_learnWithin 50 = .ok (.isub, 1) := by decide +kernel
theorem dX2_learnWithin_51 : decode cX2_learnWithin 51 = .ok (.iastore, 1) := by decide +kernel
theorem dX2_learnWithin_52 : decode cX2_learnWithin 52 = .ok (.goto 30, 3) := by decide +kernel
theorem dX2_learnWithin_55 : decode cX2_learnWithin 55 = .ok (.iload_n 2, 1) := by decide +kernel
theorem dX2_learnWithin_56 : decode cX2_learnWithin 56 = .ok (.invokestatic 52, 3) := by decide +kernel
theorem dX2_learnWithin_59 : decode cX2_learnWithin 59 = .ok (.ifCond .eq 23, 3) := by decide +kernel
theorem dX2_learnWithin_62 : decode cX2_learnWithin 62 = .ok (.aload_n 0, 1) := by decide +kernel
theorem dX2_learnWithin_63 : decode cX2_learnWithin 63 = .ok (.getfield 18, 3) := by decide +kernel
theorem dX2_learnWithin_66 : decode cX2_learnWithin 66 = .ok (.iload_n 1, 1) := by decide +kernel
theorem dX2_learnWithin_67 : decode cX2_learnWithin 67 = .ok (.aload_n 0, 1) := by decide +kernel
theorem dX2_learnWithin_68 : decode cX2_learnWithin 68 = .ok (.getfield 18, 3) := by decide +kernel
theorem dX2_learnWithin_71 : decode cX2_learnWithin 71 = .ok (.iload_n 1, 1) := by decide +kernel
theorem dX2_learnWithin_72 : decode cX2_learnWithin 72 = .ok (.iaload, 1) := by decide +kernel
theorem dX2_learnWithin_73 : decode cX2_learnWithin 73 = .ok (.bipush 10, 2) := by decide +kernel
theorem dX2_learnWithin_75 : decode cX2_learnWithin 75 = .ok (.imul, 1) := by decide +kernel
theorem dX2_learnWithin_76 : decode cX2_learnWithin 76 = .ok (.iload_n 2, 1) := by decide +kernel
theorem dX2_learnWithin_77 : decode cX2_learnWithin 77 = .ok (.iadd, 1) := by decide +kernel
theorem dX2_learnWithin_78 : decode cX2_learnWithin 78 = .ok (.bipush 48, 2) := by decide +kernel
theorem dX2_learnWithin_80 : decode cX2_learnWithin 80 = .ok (.isub, 1) := by decide +kernel
theorem dX2_learnWithin_81 : decode cX2_learnWithin 81 = .ok (.iastore, 1) := by decide +kernel
theorem dX2_learnWithin_82 : decode cX2_learnWithin 82 = .ok (.return_, 1) := by decide +kernel
theorem dX2_airFor_0 : decode cX2_airFor 0 = .ok (.iconst 0, 1) := by decide +kernel
theorem dX2_airFor_1 : decode cX2_airFor 1 = .ok (.istore_n 2, 1) := by decide +kernel
theorem dX2_airFor_2 : decode cX2_airFor 2 = .ok (.iload_n 2, 1) := by decide +kernel
theorem dX2_airFor_3 : decode cX2_airFor 3 = .ok (.aload_n 0, 1) := by decide +kernel
theorem dX2_airFor_4 : decode cX2_airFor 4 = .ok (.getfield 24, 3) := by decide +kernel
theorem dX2_airFor_7 : decode cX2_airFor 7 = .ok (.if_icmp .ge 53, 3) := by decide +kernel
theorem dX2_airFor_10 : decode cX2_airFor 10 = .ok (.iload_n 2, 1) := by decide +kernel
theorem dX2_airFor_11 : decode cX2_airFor 11 = .ok (.aload_n 0, 1) := by decide +kernel
theorem dX2_airFor_12 : decode cX2_airFor 12 = .ok (.getfield 9, 3) := by decide +kernel
theorem dX2_airFor_15 : decode cX2_airFor 15 = .ok (.arraylength, 1) := by decide +kernel
theorem dX2_airFor_16 : decode cX2_airFor 16 = .ok (.if_icmp .ge 44, 3) := by decide +kernel
theorem dX2_airFor_19 : decode cX2_airFor 19 = .ok (.aload_n 0, 1) := by decide +kernel
theorem dX2_airFor_20 : decode cX2_airFor 20 = .ok (.getfield 15, 3) := by decide +kernel
theorem dX2_airFor_23 : decode cX2_airFor 23 = .ok (.iload_n 2, 1) := by decide +kernel
theorem dX2_airFor_24 : decode cX2_airFor 24 = .ok (.iaload, 1) := by decide +kernel
theorem dX2_airFor_25 : decode cX2_airFor 25 = .ok (.aload_n 0, 1) := by decide +kernel
theorem dX2_airFor_26 : decode cX2_airFor 26 = .ok (.getfield 9, 3) := by decide +kernel
theorem dX2_airFor_29 : decode cX2_airFor 29 = .ok (.iload_n 2, 1) := by decide +kernel
theorem dX2_airFor_30 : decode cX2_airFor 30 = .ok (.iaload, 1) := by decide +kernel
theorem dX2_airFor_31 : decode cX2_airFor 31 = .ok (.aload_n 1, 1) := by decide +kernel
theorem dX2_airFor_32 : decode cX2_airFor 32 = .ok (.invokestatic 55, 3) := by decide +kernel
theorem dX2_airFor_35 : decode cX2_airFor 35 = .ok (.aload_n 0, 1) := by decide +kernel
theorem dX2_airFor_36 : decode cX2_airFor 36 = .ok (.getfield 18, 3) := by decide +kernel
theorem dX2_airFor_39 : decode cX2_airFor 39 = .ok (.iload_n 2, 1) := by decide +kernel
theorem dX2_airFor_40 : decode cX2_airFor 40 = .ok (.iaload, 1) := by decide +kernel
theorem dX2_airFor_41 : decode cX2_airFor 41 = .ok (.invokestatic 59, 3) := by decide +kernel
theorem dX2_airFor_44 : decode cX2_airFor 44 = .ok (.ifCond .eq 10, 3) := by decide +kernel
theorem dX2_airFor_47 : decode cX2_airFor 47 = .ok (.aload_n 0, 1) := by decide +kernel
theorem dX2_airFor_48 : decode cX2_airFor 48 = .ok (.getfield 21, 3) := by decide +kernel
theorem dX2_airFor_51 : decode cX2_airFor 51 = .ok (.iload_n 2, 1) := by decide +kernel
theorem dX2_airFor_52 : decode cX2_airFor 52 = .ok (.iaload, 1) := by decide +kernel
theorem dX2_airFor_53 : decode cX2_airFor 53 = .ok (.ireturn, 1) := by decide +kernel
theorem dX2_airFor_54 : decode cX2_airFor 54 = .ok (.iinc 2 1, 3) := by decide +kernel
theorem dX2_airFor_57 : decode cX2_airFor 57 = .ok (.goto (-55), 3) := by decide +kernel
theorem dX2_airFor_60 : decode cX2_airFor 60 = .ok (.aload_n 1, 1) := by decide +kernel
theorem dX2_airFor_61 : decode cX2_airFor 61 = .ok (.getfield 63, 3) := by decide +kernel
theorem dX2_airFor_64 : decode cX2_airFor 64 = .ok (.ireturn, 1) := by decide +kernel
theorem dX2_reading_0 : decode cX2_reading 0 = .ok (.iload_n 0, 1) := by decide +kernel
theorem dX2_reading_1 : decode cX2_reading 1 = .ok (.lookupswitch 50 #[(99, 45), (104, 35), (109, 40)], 35) := by decide +kernel
theorem dX2_reading_36 : decode cX2_reading 36 = .ok (.aload_n 1, 1) := by decide +kernel
theorem dX2_reading_37 : decode cX2_reading 37 = .ok (.getfield 68, 3) := by decide +kernel
theorem dX2_reading_40 : decode cX2_reading 40 = .ok (.ireturn, 1) := by decide +kernel
theorem dX2_reading_41 : decode cX2_reading 41 = .ok (.aload_n 1, 1) := by decide +kernel
theorem dX2_reading_42 : decode cX2_reading 42 = .ok (.getfield 71, 3) := by decide +kernel
theorem dX2_reading_45 : decode cX2_reading 45 = .ok (.ireturn, 1) := by decide +kernel
theorem dX2_reading_46 : decode cX2_reading 46 = .ok (.aload_n 1, 1) := by decide +kernel
theorem dX2_reading_47 : decode cX2_reading 47 = .ok (.getfield 74, 3) := by decide +kernel
theorem dX2_reading_50 : decode cX2_reading 50 = .ok (.ireturn, 1) := by decide +kernel
theorem dX2_reading_51 : decode cX2_reading 51 = .ok (.aload_n 1, 1) := by decide +kernel
theorem dX2_reading_52 : decode cX2_reading 52 = .ok (.getfield 77, 3) := by decide +kernel
theorem dX2_reading_55 : decode cX2_reading 55 = .ok (.ireturn, 1) := by decide +kernel
theorem dX2_holds_0 : decode cX2_holds 0 = .ok (.iload_n 0, 1) := by decide +kernel
theorem dX2_holds_1 : decode cX2_holds 1 = .ok (.lookupswitch 49 #[(60, 38), (61, 27)], 27) := by decide +kernel
theorem dX2_holds_28 : decode cX2_holds 28 = .ok (.iload_n 1, 1) := by decide +kernel
theorem dX2_holds_29 : decode cX2_holds 29 = .ok (.iload_n 2, 1) := by decide +kernel
theorem dX2_holds_30 : decode cX2_holds 30 = .ok (.if_icmp .ne 7, 3) := by decide +kernel
theorem dX2_holds_33 : decode cX2_holds 33 = .ok (.iconst 1, 1) := by decide +kernel
theorem dX2_holds_34 : decode cX2_holds 34 = .ok (.goto 4, 3) := by decide +kernel
theorem dX2_holds_37 : decode cX2_holds 37 = .ok (.iconst 0, 1) := by decide +kernel
theorem dX2_holds_38 : decode cX2_holds 38 = .ok (.ireturn, 1) := by decide +kernel
theorem dX2_holds_39 : decode cX2_holds 39 = .ok (.iload_n 1, 1) := by decide +kernel
theorem dX2_holds_40 : decode cX2_holds 40 = .ok (.iload_n 2, 1) := by decide +kernel
theorem dX2_holds_41 : decode cX2_holds 41 = .ok (.if_icmp .ge 7, 3) := by decide +kernel
theorem dX2_holds_44 : decode cX2_holds 44 = .ok (.iconst 1, 1) := by decide +kernel
theorem dX2_holds_45 : decode cX2_holds 45 = .ok (.goto 4, 3) := by decide +kernel
theorem dX2_holds_48 : decode cX2_holds 48 = .ok (.iconst 0, 1) := by decide +kernel
theorem dX2_holds_49 : decode cX2_holds 49 = .ok (.ireturn, 1) := by decide +kernel
theorem dX2_holds_50 : decode cX2_holds 50 = .ok (.iload_n 1, 1) := by decide +kernel
theorem dX2_holds_51 : decode cX2_holds 51 = .ok (.iload_n 2, 1) := by decide +kernel
theorem dX2_holds_52 : decode cX2_holds 52 = .ok (.if_icmp .le 7, 3) := by decide +kernel
theorem dX2_holds_55 : decode cX2_holds 55 = .ok (.iconst 1, 1) := by decide +kernel
theorem dX2_holds_56 : decode cX2_holds 56 = .ok (.goto 4, 3) := by decide +kernel
theorem dX2_holds_59 : decode cX2_holds 59 = .ok (.iconst 0, 1) := by decide +kernel
theorem dX2_holds_60 : decode cX2_holds 60 = .ok (.ireturn, 1) := by decide +kernel
theorem dX3_init_0 : decode cX3_init 0 = .ok (.aload_n 0, 1) := by decide +kernel
theorem dX3_init_1 : decode cX3_init 1 = .ok (.invokespecial 3, 3) := by decide +kernel
theorem dX3_init_4 : decode cX3_init 4 = .ok (.aload_n 0, 1) := by decide +kernel
theorem dX3_init_5 : decode cX3_init 5 = .ok (.bipush 12, 2) := by decide +kernel
theorem dX3_init_7 : decode cX3_init 7 = .ok (.newarray .int, 2) := by decide +kernel
theorem dX3_init_9 : decode cX3_init 9 = .ok (.putfield 9, 3) := by decide +kernel
theorem dX3_init_12 : decode cX3_init 12 = .ok (.aload_n 0, 1) := by decide +kernel
theorem dX3_init_13 : decode cX3_init 13 = .ok (.bipush 12, 2) := by decide +kernel
theorem dX3_init_15 : decode cX3_init 15 = .ok (.newarray .int, 2) := by decide +kernel
theorem dX3_init_17 : decode cX3_init 17 = .ok (.putfield 15, 3) := by decide +kernel
theorem dX3_init_20 : decode cX3_init 20 = .ok (.aload_n 0, 1) := by decide +kernel
theorem dX3_init_21 : decode cX3_init 21 = .ok (.bipush 8, 2) := by decide +kernel
theorem dX3_init_23 : decode cX3_init 23 = .ok (.newarray .int, 2) := by decide +kernel
theorem dX3_init_25 : decode cX3_init 25 = .ok (.putfield 18, 3) := by decide +kernel
theorem dX3_init_28 : decode cX3_init 28 = .ok (.aload_n 0, 1) := by decide +kernel
theorem dX3_init_29 : decode cX3_init 29 = .ok (.iconst (-1), 1) := by decide +kernel
theorem dX3_init_30 : decode cX3_init 30 = .ok (.putfield 21, 3) := by decide +kernel
theorem dX3_init_33 : decode cX3_init 33 = .ok (.aload_n 0, 1) := by decide +kernel
theorem dX3_init_34 : decode cX3_init 34 = .ok (.bipush 9, 2) := by decide +kernel
theorem dX3_init_36 : decode cX3_init 36 = .ok (.putfield 25, 3) := by decide +kernel
theorem dX3_init_39 : decode cX3_init 39 = .ok (.aload_n 0, 1) := by decide +kernel
theorem dX3_init_40 : decode cX3_init 40 = .ok (.iconst 1, 1) := by decide +kernel
theorem dX3_init_41 : decode cX3_init 41 = .ok (.putfield 28, 3) := by decide +kernel
theorem dX3_init_44 : decode cX3_init 44 = .ok (.return_, 1) := by decide +kernel
theorem dX3_isFilled_0 : decode cX3_isFilled 0 = .ok (.aload_n 0, 1) := by decide +kernel
theorem dX3_isFilled_1 : decode cX3_isFilled 1 = .ok (.getfield 31, 3) := by decide +kernel
theorem dX3_isFilled_4 : decode cX3_isFilled 4 = .ok (.ifCond .ne 20, 3) := by decide +kernel
theorem dX3_isFilled_7 : decode cX3_isFilled 7 = .ok (.aload_n 0, 1) := by decide +kernel
theorem dX3_isFilled_8 : decode cX3_isFilled 8 = .ok (.getfield 34, 3) := by decide +kernel
theorem dX3_isFilled_11 : decode cX3_isFilled 11 = .ok (.ifCond .ne 13, 3) := by decide +kernel
theorem dX3_isFilled_14 : decode cX3_isFilled 14 = .ok (.aload_n 0, 1) := by decide +kernel
theorem dX3_isFilled_15 : decode cX3_isFilled 15 = .ok (.getfield 15, 3) := by decide +kernel
theorem dX3_isFilled_18 : decode cX3_isFilled 18 = .ok (.invokestatic 37, 3) := by decide +kernel
theorem dX3_isFilled_21 : decode cX3_isFilled 21 = .ok (.ifCond .eq 7, 3) := by decide +kernel
theorem dX3_isFilled_24 : decode cX3_isFilled 24 = .ok (.iconst 1, 1) := by decide +kernel
theorem dX3_isFilled_25 : decode cX3_isFilled 25 = .ok (.goto 4, 3) := by decide +kernel
theorem dX3_isFilled_28 : decode cX3_isFilled 28 = .ok (.iconst 0, 1) := by decide +kernel
theorem dX3_isFilled_29 : decode cX3_isFilled 29 = .ok (.ireturn, 1) := by decide +kernel
theorem dX3_passMinute_0 : decode cX3_passMinute 0 = .ok (.aload_n 0, 1) := by decide +kernel
theorem dX3_passMinute_1 : decode cX3_passMinute 1 = .ok (.getfield 28, 3) := by decide +kernel
theorem dX3_passMinute_4 : decode cX3_passMinute 4 = .ok (.ifCond .le 23, 3) := by decide +kernel
theorem dX3_passMinute_7 : decode cX3_passMinute 7 = .ok (.aload_n 0, 1) := by decide +kernel
theorem dX3_passMinute_8 : decode cX3_passMinute 8 = .ok (.getfield 41, 3) := by decide +kernel
theorem dX3_passMinute_11 : decode cX3_passMinute 11 = .ok (.aload_n 0, 1) := by decide +kernel
theorem dX3_passMinute_12 : decode cX3_passMinute 12 = .ok (.getfield 28, 3) := by decide +kernel
theorem dX3_passMinute_15 : decode cX3_passMinute 15 = .ok (.irem, 1) := by decide +kernel
theorem dX3_passMinute_16 : decode cX3_passMinute 16 = .ok (.ifCond .ne 11, 3) := by decide +kernel
theorem dX3_passMinute_19 : decode cX3_passMinute 19 = .ok (.aload_n 0, 1) := by decide +kernel
theorem dX3_passMinute_20 : decode cX3_passMinute 20 = .ok (.aload_n 0, 1) := by decide +kernel
theorem dX3_passMinute_21 : decode cX3_passMinute 21 = .ok (.getfield 44, 3) := by decide +kernel
theorem dX3_passMinute_24 : decode cX3_passMinute 24 = .ok (.putfield 47, 3) := by decide +kernel
theorem dX3_passMinute_27 : decode cX3_passMinute 27 = .ok (.aload_n 0, 1) := by decide +kernel
theorem dX3_passMinute_28 : decode cX3_passMinute 28 = .ok (.aload_n 1, 1) := by decide +kernel
theorem dX3_passMinute_29 : decode cX3_passMinute 29 = .ok (.aload_n 0, 1) := by decide +kernel
theorem dX3_passMinute_30 : decode cX3_passMinute 30 = .ok (.invokevirtual 50, 3) := by decide +kernel
theorem dX3_passMinute_33 : decode cX3_passMinute 33 = .ok (.putfield 56, 3) := by decide +kernel
theorem dX3_passMinute_36 : decode cX3_passMinute 36 = .ok (.aload_n 0, 1) := by decide +kernel
theorem dX3_passMinute_37 : decode cX3_passMinute 37 = .ok (.getfield 56, 3) := by decide +kernel
theorem dX3_passMinute_40 : decode cX3_passMinute 40 = .ok (.aload_n 0, 1) := by decide +kernel
theorem dX3_passMinute_41 : decode cX3_passMinute 41 = .ok (.getfield 25, 3) := by decide +kernel
theorem dX3_passMinute_44 : decode cX3_passMinute 44 = .ok (.invokestatic 59, 3) := by decide +kernel
theorem dX3_passMinute_47 : decode cX3_passMinute 47 = .ok (.aload_n 0, 1) := by decide +kernel
theorem dX3_passMinute_48 : decode cX3_passMinute 48 = .ok (.getfield 34, 3) := by decide +kernel
theorem dX3_passMinute_51 : decode cX3_passMinute 51 = .ok (.invokestatic 59, 3) := by decide +kernel
theorem dX3_passMinute_54 : decode cX3_passMinute 54 = .ok (.istore_n 3, 1) := by decide +kernel
theorem dX3_passMinute_55 : decode cX3_passMinute 55 = .ok (.aload_n 0, 1) := by decide +kernel
theorem dX3_passMinute_56 : decode cX3_passMinute 56 = .ok (.dup, 1) := by decide +kernel
theorem dX3_passMinute_57 : decode cX3_passMinute 57 = .ok (.getfield 34, 3) := by decide +kernel
theorem dX3_passMinute_60 : decode cX3_passMinute 60 = .ok (.iload_n 3, 1) := by decide +kernel
theorem dX3_passMinute_61 : decode cX3_passMinute 61 = .ok (.isub, 1) := by decide +kernel
theorem dX3_passMinute_62 : decode cX3_passMinute 62 = .ok (.putfield 34, 3) := by decide +kernel
theorem dX3_passMinute_65 : decode cX3_passMinute 65 = .ok (.aload_n 0, 1) := by decide +kernel
theorem dX3_passMinute_66 : decode cX3_passMinute 66 = .ok (.dup, 1) := by decide +kernel
theorem dX3_passMinute_67 : decode cX3_passMinute 67 = .ok (.getfield 65, 3) := by decide +kernel
theorem dX3_passMinute_70 : decode cX3_passMinute 70 = .ok (.iload_n 3, 1) := by decide +kernel
theorem dX3_passMinute_71 : decode cX3_passMinute 71 = .ok (.iadd, 1) := by decide +kernel
theorem dX3_passMinute_72 : decode cX3_passMinute 72 = .ok (.putfield 65, 3) := by decide +kernel
theorem dX3_passMinute_75 : decode cX3_passMinute 75 = .ok (.aload_n 0, 1) := by decide +kernel
theorem dX3_passMinute_76 : decode cX3_passMinute 76 = .ok (.dup, 1) := by decide +kernel
theorem dX3_passMinute_77 : decode cX3_passMinute 77 = .ok (.getfield 44, 3) := by decide +kernel
theorem dX3_passMinute_80 : decode cX3_passMinute 80 = .ok (.bipush 12, 2) := by decide +kernel
theorem dX3_passMinute_82 : decode cX3_passMinute 82 = .ok (.iload_n 3, 1) := by decide +kernel
theorem dX3_passMinute_83 : decode cX3_passMinute 83 = .ok (.imul, 1) := by decide +kernel
theorem dX3_passMinute_84 : decode cX3_passMinute 84 = .ok (.iadd, 1) := by decide +kernel
theorem dX3_passMinute_85 : decode cX3_passMinute 85 = .ok (.putfield 44, 3) := by decide +kernel
theorem dX3_passMinute_88 : decode cX3_passMinute 88 = .ok (.aload_n 0, 1) := by decide +kernel
theorem dX3_passMinute_89 : decode cX3_passMinute 89 = .ok (.iconst 0, 1) := by decide +kernel
theorem dX3_passMinute_90 : decode cX3_passMinute 90 = .ok (.aload_n 0, 1) := by decide +kernel
theorem dX3_passMinute_91 : decode cX3_passMinute 91 = .ok (.getfield 44, 3) := by decide +kernel
theorem dX3_passMinute_94 : decode cX3_passMinute 94 = .ok (.aload_n 0, 1) := by decide +kernel
theorem dX3_passMinute_95 : decode cX3_passMinute 95 = .ok (.getfield 44, 3) := by decide +kernel
theorem dX3_passMinute_98 : decode cX3_passMinute 98 = .ok (.bipush 40, 2) := by decide +kernel
theorem dX3_passMinute_100 : decode cX3_passMinute 100 = .ok (.idiv, 1) := by decide +kernel
theorem dX3_passMinute_101 : decode cX3_passMinute 101 = .ok (.isub, 1) := by decide +kernel
theorem dX3_passMinute_102 : decode cX3_passMinute 102 = .ok (.iconst 2, 1) := by decide +kernel
theorem dX3_passMinute_103 : decode cX3_passMinute 103 = .ok (.isub, 1) := by decide +kernel
theorem dX3_passMinute_104 : decode cX3_passMinute 104 = .ok (.invokestatic 68, 3) := by decide +kernel
theorem dX3_passMinute_107 : decode cX3_passMinute 107 = .ok (.putfield 44, 3) := by decide +kernel
theorem dX3_passMinute_110 : decode cX3_passMinute 110 = .ok (.iload_n 3, 1) := by decide +kernel
theorem dX3_passMinute_111 : decode cX3_passMinute 111 = .ok (.ifCond .le 36, 3) := by decide +kernel
theorem dX3_passMinute_114 : decode cX3_passMinute 114 = .ok (.aload_n 0, 1) := by decide +kernel
theorem dX3_passMinute_115 : decode cX3_passMinute 115 = .ok (.getfield 44, 3) := by decide +kernel
theorem dX3_passMinute_118 : decode cX3_passMinute 118 = .ok (.sipush 1000, 3) := by decide +kernel
theorem dX3_passMinute_121 : decode cX3_passMinute 121 = .ok (.if_icmp .lt 26, 3) := by decide +kernel
theorem dX3_passMinute_124 : decode cX3_passMinute 124 = .ok (.aload_n 0, 1) := by decide +kernel
theorem dX3_passMinute_125 : decode cX3_passMinute 125 = .ok (.getfield 44, 3) := by decide +kernel
theorem dX3_passMinute_128 : decode cX3_passMinute 128 = .ok (.sipush 1300, 3) := by decide +kernel
theorem dX3_passMinute_131 : decode cX3_passMinute 131 = .ok (.if_icmp .gt 16, 3) := by decide +kernel
theorem dX3_passMinute_134 : decode cX3_passMinute 134 = .ok (.aload_n 0, 1) := by decide +kernel
theorem dX3_passMinute_135 : decode cX3_passMinute 135 = .ok (.iconst 3, 1) := by decide +kernel
theorem dX3_passMinute_136 : decode cX3_passMinute 136 = .ok (.aload_n 0, 1) := by decide +kernel
theorem dX3_passMinute_137 : decode cX3_passMinute 137 = .ok (.getfield 31, 3) := by decide +kernel
theorem dX3_passMinute_140 : decode cX3_passMinute 140 = .ok (.invokestatic 59, 3) := by decide +kernel
theorem dX3_passMinute_143 : decode cX3_passMinute 143 = .ok (.aload_n 2, 1) := by decide +kernel
theorem dX3_passMinute_144 : decode cX3_passMinute 144 = .ok (.invokevirtual 71, 3) := by decide +kernel
theorem dX3_passMinute_147 : decode cX3_passMinute 147 = .ok (.aload_n 0, 1) := by decide +kernel
theorem dX3_passMinute_148 : decode cX3_passMinute 148 = .ok (.getfield 44, 3) := by decide +kernel
theorem dX3_passMinute_151 : decode cX3_passMinute 151 = .ok (.sipush 1300, 3) := by decide +kernel
theorem dX3_passMinute_154 : decode cX3_passMinute 154 = .ok (.if_icmp .le 7, 3) := by decide +kernel
theorem dX3_passMinute_157 : decode cX3_passMinute 157 = .ok (.aload_n 0, 1) := by decide +kernel
theorem dX3_passMinute_158 : decode cX3_passMinute 158 = .ok (.invokevirtual 75, 3) := by decide +kernel
theorem dX3_passMinute_161 : decode cX3_passMinute 161 = .ok (.aload_n 0, 1) := by decide +kernel
theorem dX3_passMinute_162 : decode cX3_passMinute 162 = .ok (.dup, 1) := by decide +kernel
theorem dX3_passMinute_163 : decode cX3_passMinute 163 = .ok (.getfield 41, 3) := by decide +kernel
theorem dX3_passMinute_166 : decode cX3_passMinute 166 = .ok (.iconst 1, 1) := by decide +kernel
theorem dX3_passMinute_167 : decode cX3_passMinute 167 = .ok (.iadd, 1) := by decide +kernel
theorem dX3_passMinute_168 : decode cX3_passMinute 168 = .ok (.putfield 41, 3) := by decide +kernel
theorem dX3_passMinute_171 : decode cX3_passMinute 171 = .ok (.return_, 1) := by decide +kernel
theorem dX3_reduce_0 : decode cX3_reduce 0 = .ok (.iload_n 1, 1) := by decide +kernel
theorem dX3_reduce_1 : decode cX3_reduce 1 = .ok (.ifCond .le 26, 3) := by decide +kernel
theorem dX3_reduce_4 : decode cX3_reduce 4 = .ok (.aload_n 2, 1) := by decide +kernel
theorem dX3_reduce_5 : decode cX3_reduce 5 = .ok (.iload_n 1, 1) := by decide +kernel
theorem dX3_reduce_6 : decode cX3_reduce 6 = .ok (.aload_n 0, 1) := by decide +kernel
theorem dX3_reduce_7 : decode cX3_reduce 7 = .ok (.getfield 9, 3) := by decide +kernel
theorem dX3_reduce_10 : decode cX3_reduce 10 = .ok (.aload_n 0, 1) := by decide +kernel
theorem dX3_reduce_11 : decode cX3_reduce 11 = .ok (.getfield 15, 3) := by decide +kernel
theorem dX3_reduce_14 : decode cX3_reduce 14 = .ok (.invokevirtual 78, 3) := by decide +kernel
theorem dX3_reduce_17 : decode cX3_reduce 17 = .ok (.aload_n 0, 1) := by decide +kernel
theorem dX3_reduce_18 : decode cX3_reduce 18 = .ok (.dup, 1) := by decide +kernel
theorem dX3_reduce_19 : decode cX3_reduce 19 = .ok (.getfield 31, 3) := by decide +kernel
theorem dX3_reduce_22 : decode cX3_reduce 22 = .ok (.iload_n 1, 1) := by decide +kernel
theorem dX3_reduce_23 : decode cX3_reduce 23 = .ok (.isub, 1) := by decide +kernel
theorem dX3_reduce_24 : decode cX3_reduce 24 = .ok (.putfield 31, 3) := by decide +kernel
theorem dX3_reduce_27 : decode cX3_reduce 27 = .ok (.return_, 1) := by decide +kernel
theorem dX3_noteScorch_0 : decode cX3_noteScorch 0 = .ok (.aload_n 0, 1) := by decide +kernel
theorem dX3_noteScorch_1 : decode cX3_noteScorch 1 = .ok (.getfield 84, 3) := by decide +kernel
theorem dX3_noteScorch_4 : decode cX3_noteScorch 4 = .ok (.ifCond .ne 11, 3) := by decide +kernel
theorem dX3_noteScorch_7 : decode cX3_noteScorch 7 = .ok (.aload_n 0, 1) := by decide +kernel
theorem dX3_noteScorch_8 : decode cX3_noteScorch 8 = .ok (.aload_n 0, 1) := by decide +kernel
theorem dX3_noteScorch_9 : decode cX3_noteScorch 9 = .ok (.getfield 41, 3) := by decide +kernel
theorem dX3_noteScorch_12 : decode cX3_noteScorch 12 = .ok (.putfield 21, 3) := by decide +kernel
theorem dX3_noteScorch_15 : decode cX3_noteScorch 15 = .ok (.aload_n 0, 1) := by decide +kernel
theorem dX3_noteScorch_16 : decode cX3_noteScorch 16 = .ok (.dup, 1) := by decide +kernel
theorem dX3_noteScorch_17 : decode cX3_noteScorch 17 = .ok (.getfield 84, 3) := by decide +kernel
theorem dX3_noteScorch_20 : decode cX3_noteScorch 20 = .ok (.iconst 1, 1) := by decide +kernel
theorem dX3_noteScorch_21 : decode cX3_noteScorch 21 = .ok (.iadd, 1) := by decide +kernel
theorem dX3_noteScorch_22 : decode cX3_noteScorch 22 = .ok (.putfield 84, 3) := by decide +kernel
theorem dX3_noteScorch_25 : decode cX3_noteScorch 25 = .ok (.return_, 1) := by decide +kernel
theorem dX3_sortOfBloom_0 : decode cX3_sortOfBloom 0 = .ok (.aload_n 0, 1) := by decide +kernel
theorem dX3_sortOfBloom_1 : decode cX3_sortOfBloom 1 = .ok (.getfield 84, 3) := by decide +kernel
theorem dX3_sortOfBloom_4 : decode cX3_sortOfBloom 4 = .ok (.ifCond .ne 5, 3) := by decide +kernel
theorem dX3_sortOfBloom_7 : decode cX3_sortOfBloom 7 = .ok (.iconst 0, 1) := by decide +kernel
theorem dX3_sortOfBloom_8 : decode cX3_sortOfBloom 8 = .ok (.ireturn, 1) := by decide +kernel
theorem dX3_sortOfBloom_9 : decode cX3_sortOfBloom 9 = .ok (.aload_n 0, 1) := by decide +kernel
theorem dX3_sortOfBloom_10 : decode cX3_sortOfBloom 10 = .ok (.getfield 84, 3) := by decide +kernel
theorem dX3_sortOfBloom_13 : decode cX3_sortOfBloom 13 = .ok (.bipush 10, 2) := by decide +kernel
theorem dX3_sortOfBloom_15 : decode cX3_sortOfBloom 15 = .ok (.if_icmp .gt 7, 3) := by decide +kernel
theorem dX3_sortOfBloom_18 : decode cX3_sortOfBloom 18 = .ok (.iconst 1, 1) := by decide +kernel
theorem dX3_sortOfBloom_19 : decode cX3_sortOfBloom 19 = .ok (.goto 4, 3) := by decide +kernel
theorem dX3_sortOfBloom_22 : decode cX3_sortOfBloom 22 = .ok (.iconst 2, 1) := by decide +kernel
theorem dX3_sortOfBloom_23 : decode cX3_sortOfBloom 23 = .ok (.ireturn, 1) := by decide +kernel
theorem dX3_empty_0 : decode cX3_empty 0 = .ok (.aload_n 0, 1) := by decide +kernel
theorem dX3_empty_1 : decode cX3_empty 1 = .ok (.getfield 9, 3) := by decide +kernel
theorem dX3_empty_4 : decode cX3_empty 4 = .ok (.iconst 0, 1) := by decide +kernel
theorem dX3_empty_5 : decode cX3_empty 5 = .ok (.invokestatic 87, 3) := by decide +kernel
theorem dX3_empty_8 : decode cX3_empty 8 = .ok (.aload_n 0, 1) := by decide +kernel
theorem dX3_empty_9 : decode cX3_empty 9 = .ok (.getfield 15, 3) := by decide +kernel
theorem dX3_empty_12 : decode cX3_empty 12 = .ok (.iconst 0, 1) := by decide +kernel
theorem dX3_empty_13 : decode cX3_empty 13 = .ok (.invokestatic 87, 3) := by decide +kernel
theorem dX3_empty_16 : decode cX3_empty 16 = .ok (.aload_n 0, 1) := by decide +kernel
theorem dX3_empty_17 : decode cX3_empty 17 = .ok (.getfield 18, 3) := by decide +kernel
theorem dX3_empty_20 : decode cX3_empty 20 = .ok (.iconst 0, 1) := by decide +kernel
theorem dX3_empty_21 : decode cX3_empty 21 = .ok (.invokestatic 87, 3) := by decide +kernel
theorem dX3_empty_24 : decode cX3_empty 24 = .ok (.aload_n 0, 1) := by decide +kernel
theorem dX3_empty_25 : decode cX3_empty 25 = .ok (.iconst 0, 1) := by decide +kernel
theorem dX3_empty_26 : decode cX3_empty 26 = .ok (.putfield 31, 3) := by decide +kernel
theorem dX3_empty_29 : decode cX3_empty 29 = .ok (.aload_n 0, 1) := by decide +kernel
theorem dX3_empty_30 : decode cX3_empty 30 = .ok (.iconst 0, 1) := by decide +kernel
theorem dX3_empty_31 : decode cX3_empty 31 = .ok (.putfield 34, 3) := by decide +kernel
theorem dX3_empty_34 : decode cX3_empty 34 = .ok (.aload_n 0, 1) := by decide +kernel
theorem dX3_empty_35 : decode cX3_empty 35 = .ok (.iconst 0, 1) := by decide +kernel
theorem dX3_empty_36 : decode cX3_empty 36 = .ok (.putfield 65, 3) := by decide +kernel
theorem dX3_empty_39 : decode cX3_empty 39 = .ok (.aload_n 0, 1) := by decide +kernel
theorem dX3_empty_40 : decode cX3_empty 40 = .ok (.iconst 0, 1) := by decide +kernel
theorem dX3_empty_41 : decode cX3_empty 41 = .ok (.putfield 44, 3) := by decide +kernel
theorem dX3_empty_44 : decode cX3_empty 44 = .ok (.aload_n 0, 1) := by decide +kernel
theorem dX3_empty_45 : decode cX3_empty 45 = .ok (.iconst 0, 1) := by decide +kernel
theorem dX3_empty_46 : decode cX3_empty 46 = .ok (.putfield 41, 3) := by decide +kernel
theorem dX3_empty_49 : decode cX3_empty 49 = .ok (.aload_n 0, 1) := by decide +kernel
theorem dX3_empty_50 : decode cX3_empty 50 = .ok (.iconst 0, 1) := by decide +kernel
theorem dX3_empty_51 : decode cX3_empty 51 = .ok (.putfield 47, 3) := by decide +kernel
theorem dX3_empty_54 : decode cX3_empty 54 = .ok (.aload_n 0, 1) := by decide +kernel
theorem dX3_empty_55 : decode cX3_empty 55 = .ok (.iconst 0, 1) := by decide +kernel
theorem dX3_empty_56 : decode cX3_empty 56 = .ok (.putfield 56, 3) := by decide +kernel
theorem dX3_empty_59 : decode cX3_empty 59 = .ok (.aload_n 0, 1) := by decide +kernel
theorem dX3_empty_60 : decode cX3_empty 60 = .ok (.iconst 0, 1) := by decide +kernel
theorem dX3_empty_61 : decode cX3_empty 61 = .ok (.putfield 84, 3) := by decide +kernel
theorem dX3_empty_64 : decode cX3_empty 64 = .ok (.aload_n 0, 1) := by decide +kernel
theorem dX3_empty_65 : decode cX3_empty 65 = .ok (.iconst (-1), 1) := by decide +kernel
theorem dX3_empty_66 : decode cX3_empty 66 = .ok (.putfield 21, 3) := by decide +kernel
theorem dX3_empty_69 : decode cX3_empty 69 = .ok (.return_, 1) := by decide +kernel
theorem dX4_init_0 : decode cX4_init 0 = .ok (.aload_n 0, 1) := by decide +kernel
theorem dX4_init_1 : decode cX4_init 1 = .ok (.invokespecial 3, 3) := by decide +kernel
theorem dX4_init_4 : decode cX4_init 4 = .ok (.aload_n 0, 1) := by decide +kernel
theorem dX4_init_5 : decode cX4_init 5 = .ok (.bipush 64, 2) := by decide +kernel
theorem dX4_init_7 : decode cX4_init 7 = .ok (.newarray .int, 2) := by decide +kernel
theorem dX4_init_9 : decode cX4_init 9 = .ok (.putfield 9, 3) := by decide +kernel
theorem dX4_init_12 : decode cX4_init 12 = .ok (.aload_n 0, 1) := by decide +kernel
theorem dX4_init_13 : decode cX4_init 13 = .ok (.bipush 64, 2) := by decide +kernel
theorem dX4_init_15 : decode cX4_init 15 = .ok (.newarray .int, 2) := by decide +kernel
theorem dX4_init_17 : decode cX4_init 17 = .ok (.putfield 15, 3) := by decide +kernel
theorem dX4_init_20 : decode cX4_init 20 = .ok (.aload_n 0, 1) := by decide +kernel
theorem dX4_init_21 : decode cX4_init 21 = .ok (.bipush 64, 2) := by decide +kernel
theorem dX4_init_23 : decode cX4_init 23 = .ok (.newarray .int, 2) := by decide +kernel
theorem dX4_init_25 : decode cX4_init 25 = .ok (.putfield 18, 3) := by decide +kernel
theorem dX4_init_28 : decode cX4_init 28 = .ok (.aload_n 0, 1) := by decide +kernel
theorem dX4_init_29 : decode cX4_init 29 = .ok (.bipush 64, 2) := by decide +kernel
theorem dX4_init_31 : decode cX4_init 31 = .ok (.newarray .int, 2) := by decide +kernel
theorem dX4_init_33 : decode cX4_init 33 = .ok (.putfield 21, 3) := by decide +kernel
theorem dX4_init_36 : decode cX4_init 36 = .ok (.aload_n 0, 1) := by decide +kernel
theorem dX4_init_37 : decode cX4_init 37 = .ok (.bipush 8, 2) := by decide +kernel
theorem dX4_init_39 : decode cX4_init 39 = .ok (.newarray .int, 2) := by decide +kernel
theorem dX4_init_41 : decode cX4_init 41 = .ok (.putfield 24, 3) := by decide +kernel
theorem dX4_init_44 : decode cX4_init 44 = .ok (.return_, 1) := by decide +kernel
theorem dX4_hasRoom_0 : decode cX4_hasRoom 0 = .ok (.aload_n 0, 1) := by decide +kernel
theorem dX4_hasRoom_1 : decode cX4_hasRoom 1 = .ok (.getfield 27, 3) := by decide +kernel
theorem dX4_hasRoom_4 : decode cX4_hasRoom 4 = .ok (.bipush 8, 2) := by decide +kernel
theorem dX4_hasRoom_6 : decode cX4_hasRoom 6 = .ok (.iadd, 1) := by decide +kernel
theorem dX4_hasRoom_7 : decode cX4_hasRoom 7 = .ok (.sipush 4096, 3) := by decide +kernel
theorem dX4_hasRoom_10 : decode cX4_hasRoom 10 = .ok (.if_icmp .gt 7, 3) := by decide +kernel
theorem dX4_hasRoom_13 : decode cX4_hasRoom 13 = .ok (.iconst 1, 1) := by decide +kernel
theorem dX4_hasRoom_14 : decode cX4_hasRoom 14 = .ok (.goto 4, 3) := by decide +kernel
theorem dX4_hasRoom_17 : decode cX4_hasRoom 17 = .ok (.iconst 0, 1) := by decide +kernel
theorem dX4_hasRoom_18 : decode cX4_hasRoom 18 = .ok (.ireturn, 1) := by decide +kernel
theorem dX4_write_0 : decode cX4_write 0 = .ok (.aload_n 0, 1) := by decide +kernel
theorem dX4_write_1 : decode cX4_write 1 = .ok (.getfield 27, 3) := by decide +kernel
theorem dX4_write_4 : decode cX4_write 4 = .ok (.aload_n 0, 1) := by decide +kernel
theorem dX4_write_5 : decode cX4_write 5 = .ok (.getfield 9, 3) := by decide +kernel
theorem dX4_write_8 : decode cX4_write 8 = .ok (.arraylength, 1) := by decide +kernel
theorem dX4_write_9 : decode cX4_write 9 = .ok (.if_icmp .lt 7, 3) := by decide +kernel
theorem dX4_write_12 : decode cX4_write 12 = .ok (.aload_n 0, 1) := by decide +kernel
theorem dX4_write_13 : decode cX4_write 13 = .ok (.invokevirtual 31, 3) := by decide +kernel
theorem dX4_write_16 : decode cX4_write 16 = .ok (.aload_n 0, 1) := by decide +kernel
theorem dX4_write_17 : decode cX4_write 17 = .ok (.getfield 27, 3) := by decide +kernel
theorem dX4_write_20 : decode cX4_write 20 = .ok (.aload_n 0, 1) := by decide +kernel
theorem dX4_write_21 : decode cX4_write 21 = .ok (.getfield 9, 3) := by decide +kernel
theorem dX4_write_24 : decode cX4_write 24 = .ok (.arraylength, 1) := by decide +kernel
theorem dX4_write_25 : decode cX4_write 25 = .ok (.if_icmp .ge 16, 3) := by decide +kernel
theorem dX4_write_28 : decode cX4_write 28 = .ok (.iload_n 3, 1) := by decide +kernel
theorem dX4_write_29 : decode cX4_write 29 = .ok (.ifCond .lt 12, 3) := by decide +kernel
theorem dX4_write_32 : decode cX4_write 32 = .ok (.iload_n 3, 1) := by decide +kernel
theorem dX4_write_33 : decode cX4_write 33 = .ok (.aload_n 0, 1) := by decide +kernel
theorem dX4_write_34 : decode cX4_write 34 = .ok (.getfield 24, 3) := by decide +kernel
theorem dX4_write_37 : decode cX4_write 37 = .ok (.arraylength, 1) := by decide +kernel
theorem dX4_write_38 : decode cX4_write 38 = .ok (.if_icmp .lt 4, 3) := by decide +kernel
theorem dX4_write_41 : decode cX4_write 41 = .ok (.return_, 1) := by decide +kernel
theorem dX4_write_42 : decode cX4_write 42 = .ok (.aload_n 0, 1) := by decide +kernel
theorem dX4_write_43 : decode cX4_write 43 = .ok (.getfield 9, 3) := by decide +kernel
theorem dX4_write_46 : decode cX4_write 46 = .ok (.aload_n 0, 1) := by decide +kernel
theorem dX4_write_47 : decode cX4_write 47 = .ok (.getfield 27, 3) := by decide +kernel
theorem dX4_write_50 : decode cX4_write 50 = .ok (.iload_n 1, 1) := by decide +kernel
theorem dX4_write_51 : decode cX4_write 51 = .ok (.iastore, 1) := by decide +kernel
theorem dX4_write_52 : decode cX4_write 52 = .ok (.aload_n 0, 1) := by decide +kernel
theorem dX4_write_53 : decode cX4_write 53 = .ok (.getfield 15, 3) := by decide +kernel
theorem dX4_write_56 : decode cX4_write 56 = .ok (.aload_n 0, 1) := by decide +kernel
theorem dX4_write_57 : decode cX4_write 57 = .ok (.getfield 27, 3) := by decide +kernel
theorem dX4_write_60 : decode cX4_write 60 = .ok (.iload_n 2, 1) := by decide +kernel
theorem dX4_write_61 : decode cX4_write 61 = .ok (.iastore, 1) := by decide +kernel
theorem dX4_write_62 : decode cX4_write 62 = .ok (.aload_n 0, 1) := by decide +kernel
theorem dX4_write_63 : decode cX4_write 63 = .ok (.getfield 18, 3) := by decide +kernel
theorem dX4_write_66 : decode cX4_write 66 = .ok (.aload_n 0, 1) := by decide +kernel
theorem dX4_write_67 : decode cX4_write 67 = .ok (.getfield 27, 3) := by decide +kernel
theorem dX4_write_70 : decode cX4_write 70 = .ok (.iload_n 3, 1) := by decide +kernel
theorem dX4_write_71 : decode cX4_write 71 = .ok (.iastore, 1) := by decide +kernel
theorem dX4_write_72 : decode cX4_write 72 = .ok (.aload_n 0, 1) := by decide +kernel
theorem dX4_write_73 : decode cX4_write 73 = .ok (.getfield 21, 3) := by decide +kernel
theorem dX4_write_76 : decode cX4_write 76 = .ok (.aload_n 0, 1) := by decide +kernel
theorem dX4_write_77 : decode cX4_write 77 = .ok (.getfield 27, 3) := by decide +kernel
theorem dX4_write_80 : decode cX4_write 80 = .ok (.iload 4, 2) := by decide +kernel
theorem dX4_write_82 : decode cX4_write 82 = .ok (.iastore, 1) := by decide +kernel
theorem dX4_write_83 : decode cX4_write 83 = .ok (.aload_n 0, 1) := by decide +kernel
theorem dX4_write_84 : decode cX4_write 84 = .ok (.getfield 24, 3) := by decide +kernel
theorem dX4_write_87 : decode cX4_write 87 = .ok (.iload_n 3, 1) := by decide +kernel
theorem dX4_write_88 : decode cX4_write 88 = .ok (.dup2, 1) := by decide +kernel
theorem dX4_write_89 : decode cX4_write 89 = .ok (.iaload, 1) := by decide +kernel
theorem dX4_write_90 : decode cX4_write 90 = .ok (.iload 4, 2) := by decide +kernel
theorem dX4_write_92 : decode cX4_write 92 = .ok (.iadd, 1) := by decide +kernel
theorem dX4_write_93 : decode cX4_write 93 = .ok (.iastore, 1) := by decide +kernel
theorem dX4_write_94 : decode cX4_write 94 = .ok (.aload_n 0, 1) := by decide +kernel
theorem dX4_write_95 : decode cX4_write 95 = .ok (.dup, 1) := by decide +kernel
theorem dX4_write_96 : decode cX4_write 96 = .ok (.getfield 27, 3) := by decide +kernel
theorem dX4_write_99 : decode cX4_write 99 = .ok (.iconst 1, 1) := by decide +kernel
theorem dX4_write_100 : decode cX4_write 100 = .ok (.iadd, 1) := by decide +kernel
theorem dX4_write_101 : decode cX4_write 101 = .ok (.putfield 27, 3) := by decide +kernel
theorem dX4_write_104 : decode cX4_write 104 = .ok (.return_, 1) := by decide +kernel
theorem dX4_grow_0 : decode cX4_grow 0 = .ok (.sipush 4096, 3) := by decide +kernel
theorem dX4_grow_3 : decode cX4_grow 3 = .ok (.iconst 2, 1) := by decide +kernel
theorem dX4_grow_4 : decode cX4_grow 4 = .ok (.aload_n 0, 1) := by decide +kernel
theorem dX4_grow_5 : decode cX4_grow 5 = .ok (.getfield 9, 3) := by decide +kernel
theorem dX4_grow_8 : decode cX4_grow 8 = .ok (.arraylength, 1) := by decide +kernel
theorem dX4_grow_9 : decode cX4_grow 9 = .ok (.imul, 1) := by decide +kernel
theorem dX4_grow_10 : decode cX4_grow 10 = .ok (.invokestatic 34, 3) := by decide +kernel
theorem dX4_grow_13 : decode cX4_grow 13 = .ok (.istore_n 1, 1) := by decide +kernel
theorem dX4_grow_14 : decode cX4_grow 14 = .ok (.iload_n 1, 1) := by decide +kernel
theorem dX4_grow_15 : decode cX4_grow 15 = .ok (.aload_n 0, 1) := by decide +kernel
theorem dX4_grow_16 : decode cX4_grow 16 = .ok (.getfield 9, 3) := by decide +kernel
theorem dX4_grow_19 : decode cX4_grow 19 = .ok (.arraylength, 1) := by decide +kernel
theorem dX4_grow_20 : decode cX4_grow 20 = .ok (.if_icmp .le 51, 3) := by decide +kernel
theorem dX4_grow_23 : decode cX4_grow 23 = .ok (.aload_n 0, 1) := by decide +kernel
theorem dX4_grow_24 : decode cX4_grow 24 = .ok (.aload_n 0, 1) := by decide +kernel
theorem dX4_grow_25 : decode cX4_grow 25 = .ok (.getfield 9, 3) := by decide +kernel
theorem dX4_grow_28 : decode cX4_grow 28 = .ok (.iload_n 1, 1) := by decide +kernel
theorem dX4_grow_29 : decode cX4_grow 29 = .ok (.invokestatic 40, 3) := by decide +kernel
theorem dX4_grow_32 : decode cX4_grow 32 = .ok (.putfield 9, 3) := by decide +kernel
theorem dX4_grow_35 : decode cX4_grow 35 = .ok (.aload_n 0, 1) := by decide +kernel
theorem dX4_grow_36 : decode cX4_grow 36 = .ok (.aload_n 0, 1) := by decide +kernel
theorem dX4_grow_37 : decode cX4_grow 37 = .ok (.getfield 15, 3) := by decide +kernel
theorem dX4_grow_40 : decode cX4_grow 40 = .ok (.iload_n 1, 1) := by decide +kernel
theorem dX4_grow_41 : decode cX4_grow 41 = .ok (.invokestatic 40, 3) := by decide +kernel
theorem dX4_grow_44 : decode cX4_grow 44 = .ok (.putfield 15, 3) := by decide +kernel
theorem dX4_grow_47 : decode cX4_grow 47 = .ok (.aload_n 0, 1) := by decide +kernel
theorem dX4_grow_48 : decode cX4_grow 48 = .ok (.aload_n 0, 1) := by decide +kernel
theorem dX4_grow_49 : decode cX4_grow 49 = .ok (.getfield 18, 3) := by decide +kernel
theorem dX4_grow_52 : decode cX4_grow 52 = .ok (.iload_n 1, 1) := by decide +kernel
theorem dX4_grow_53 : decode cX4_grow 53 = .ok (.invokestatic 40, 3) := by decide +kernel
theorem dX4_grow_56 : decode cX4_grow 56 = .ok (.putfield 18, 3) := by decide +kernel
theorem dX4_grow_59 : decode cX4_grow 59 = .ok (.aload_n 0, 1) := by decide +kernel
theorem dX4_grow_60 : decode cX4_grow 60 = .ok (.aload_n 0, 1) := by decide +kernel
theorem dX4_grow_61 : decode cX4_grow 61 = .ok (.getfield 21, 3) := by decide +kernel
theorem dX4_grow_64 : decode cX4_grow 64 = .ok (.iload_n 1, 1) := by decide +kernel
theorem dX4_grow_65 : decode cX4_grow 65 = .ok (.invokestatic 40, 3) := by decide +kernel
theorem dX4_grow_68 : decode cX4_grow 68 = .ok (.putfield 21, 3) := by decide +kernel
theorem dX4_grow_71 : decode cX4_grow 71 = .ok (.return_, 1) := by decide +kernel
theorem dX5_init_0 : decode cX5_init 0 = .ok (.aload_n 0, 1) := by decide +kernel
theorem dX5_init_1 : decode cX5_init 1 = .ok (.invokespecial 3, 3) := by decide +kernel
theorem dX5_init_4 : decode cX5_init 4 = .ok (.aload_n 0, 1) := by decide +kernel
theorem dX5_init_5 : decode cX5_init 5 = .ok (.bipush 8, 2) := by decide +kernel
theorem dX5_init_7 : decode cX5_init 7 = .ok (.newarray .int, 2) := by decide +kernel
theorem dX5_init_9 : decode cX5_init 9 = .ok (.putfield 9, 3) := by decide +kernel
theorem dX5_init_12 : decode cX5_init 12 = .ok (.aload_n 0, 1) := by decide +kernel
theorem dX5_init_13 : decode cX5_init 13 = .ok (.bipush 8, 2) := by decide +kernel
theorem dX5_init_15 : decode cX5_init 15 = .ok (.newarray .int, 2) := by decide +kernel
theorem dX5_init_17 : decode cX5_init 17 = .ok (.putfield 15, 3) := by decide +kernel
theorem dX5_init_20 : decode cX5_init 20 = .ok (.aload_n 0, 1) := by decide +kernel
theorem dX5_init_21 : decode cX5_init 21 = .ok (.bipush 8, 2) := by decide +kernel
theorem dX5_init_23 : decode cX5_init 23 = .ok (.newarray .int, 2) := by decide +kernel
theorem dX5_init_25 : decode cX5_init 25 = .ok (.putfield 18, 3) := by decide +kernel
theorem dX5_init_28 : decode cX5_init 28 = .ok (.aload_n 0, 1) := by decide +kernel
theorem dX5_init_29 : decode cX5_init 29 = .ok (.bipush 100, 2) := by decide +kernel
theorem dX5_init_31 : decode cX5_init 31 = .ok (.newarray .int, 2) := by decide +kernel
theorem dX5_init_33 : decode cX5_init 33 = .ok (.putfield 21, 3) := by decide +kernel
theorem dX5_init_36 : decode cX5_init 36 = .ok (.aload_n 0, 1) := by decide +kernel
theorem dX5_init_37 : decode cX5_init 37 = .ok (.bipush 100, 2) := by decide +kernel
theorem dX5_init_39 : decode cX5_init 39 = .ok (.newarray .int, 2) := by decide +kernel
theorem dX5_init_41 : decode cX5_init 41 = .ok (.putfield 24, 3) := by decide +kernel
theorem dX5_init_44 : decode cX5_init 44 = .ok (.aload_n 0, 1) := by decide +kernel
theorem dX5_init_45 : decode cX5_init 45 = .ok (.bipush 100, 2) := by decide +kernel
theorem dX5_init_47 : decode cX5_init 47 = .ok (.newarray .boolean, 2) := by decide +kernel
theorem dX5_init_49 : decode cX5_init 49 = .ok (.putfield 27, 3) := by decide +kernel
theorem dX5_init_52 : decode cX5_init 52 = .ok (.aload_n 0, 1) := by decide +kernel
theorem dX5_init_53 : decode cX5_init 53 = .ok (.bipush 100, 2) := by decide +kernel
theorem dX5_init_55 : decode cX5_init 55 = .ok (.newarray .int, 2) := by decide +kernel
theorem dX5_init_57 : decode cX5_init 57 = .ok (.putfield 31, 3) := by decide +kernel
theorem dX5_init_60 : decode cX5_init 60 = .ok (.aload_n 0, 1) := by decide +kernel
theorem dX5_init_61 : decode cX5_init 61 = .ok (.bipush 8, 2) := by decide +kernel
theorem dX5_init_63 : decode cX5_init 63 = .ok (.newarray .int, 2) := by decide +kernel
theorem dX5_init_65 : decode cX5_init 65 = .ok (.putfield 34, 3) := by decide +kernel
theorem dX5_init_68 : decode cX5_init 68 = .ok (.return_, 1) := by decide +kernel
theorem dX5_take_0 : decode cX5_take 0 = .ok (.aload_n 0, 1) := by decide +kernel
theorem dX5_take_1 : decode cX5_take 1 = .ok (.getfield 37, 3) := by decide +kernel
theorem dX5_take_4 : decode cX5_take 4 = .ok (.bipush 8, 2) := by decide +kernel
theorem dX5_take_6 : decode cX5_take 6 = .ok (.if_icmp .lt 5, 3) := by decide +kernel
theorem dX5_take_9 : decode cX5_take 9 = .ok (.iconst (-1), 1) := by decide +kernel
theorem dX5_take_10 : decode cX5_take 10 = .ok (.ireturn, 1) := by decide +kernel
theorem dX5_take_11 : decode cX5_take 11 = .ok (.aload_n 0, 1) := by decide +kernel
theorem dX5_take_12 : decode cX5_take 12 = .ok (.getfield 9, 3) := by decide +kernel
theorem dX5_take_15 : decode cX5_take 15 = .ok (.aload_n 0, 1) := by decide +kernel
theorem dX5_take_16 : decode cX5_take 16 = .ok (.getfield 37, 3) := by decide +kernel
theorem dX5_take_19 : decode cX5_take 19 = .ok (.iload_n 1, 1) := by decide +kernel
theorem dX5_take_20 : decode cX5_take 20 = .ok (.iastore, 1) := by decide +kernel
theorem dX5_take_21 : decode cX5_take 21 = .ok (.aload_n 0, 1) := by decide +kernel
theorem dX5_take_22 : decode cX5_take 22 = .ok (.getfield 15, 3) := by decide +kernel
theorem dX5_take_25 : decode cX5_take 25 = .ok (.aload_n 0, 1) := by decide +kernel
theorem dX5_take_26 : decode cX5_take 26 = .ok (.getfield 37, 3) := by decide +kernel
theorem dX5_take_29 : decode cX5_take 29 = .ok (.iload_n 2, 1) := by decide +kernel
theorem dX5_take_30 : decode cX5_take 30 = .ok (.iastore, 1) := by decide +kernel
theorem dX5_take_31 : decode cX5_take 31 = .ok (.aload_n 0, 1) := by decide +kernel
theorem dX5_take_32 : decode cX5_take 32 = .ok (.dup, 1) := by decide +kernel
theorem dX5_take_33 : decode cX5_take 33 = .ok (.getfield 37, 3) := by decide +kernel
theorem dX5_take_36 : decode cX5_take 36 = .ok (.dup_x1, 1) := by decide +kernel
theorem dX5_take_37 : decode cX5_take 37 = .ok (.iconst 1, 1) := by decide +kernel
theorem dX5_take_38 : decode cX5_take 38 = .ok (.iadd, 1) := by decide +kernel
theorem dX5_take_39 : decode cX5_take 39 = .ok (.putfield 37, 3) := by decide +kernel
theorem dX5_take_42 : decode cX5_take 42 = .ok (.ireturn, 1) := by decide +kernel
theorem dX5_weigh_0 : decode cX5_weigh 0 = .ok (.aload_n 0, 1) := by decide +kernel
theorem dX5_weigh_1 : decode cX5_weigh 1 = .ok (.iload_n 2, 1) := by decide +kernel
theorem dX5_weigh_2 : decode cX5_weigh 2 = .ok (.aload_n 1, 1) := by decide +kernel
theorem dX5_weigh_3 : decode cX5_weigh 3 = .ok (.arraylength, 1) := by decide +kernel
theorem dX5_weigh_4 : decode cX5_weigh 4 = .ok (.invokestatic 41, 3) := by decide +kernel
theorem dX5_weigh_7 : decode cX5_weigh 7 = .ok (.bipush 100, 2) := by decide +kernel
theorem dX5_weigh_9 : decode cX5_weigh 9 = .ok (.invokestatic 41, 3) := by decide +kernel
theorem dX5_weigh_12 : decode cX5_weigh 12 = .ok (.putfield 47, 3) := by decide +kernel
theorem dX5_weigh_15 : decode cX5_weigh 15 = .ok (.iconst 0, 1) := by decide +kernel
theorem dX5_weigh_16 : decode cX5_weigh 16 = .ok (.istore_n 3, 1) := by decide +kernel
theorem dX5_weigh_17 : decode cX5_weigh 17 = .ok (.iload_n 3, 1) := by decide +kernel
theorem dX5_weigh_18 : decode cX5_weigh 18 = .ok (.aload_n 0, 1) := by decide +kernel
theorem dX5_weigh_19 : decode cX5_weigh 19 = .ok (.getfield 47, 3) := by decide +kernel
theorem dX5_weigh_22 : decode cX5_weigh 22 = .ok (.if_icmp .ge 43, 3) := by decide +kernel
theorem dX5_weigh_25 : decode cX5_weigh 25 = .ok (.aload_n 1, 1) := by decide +kernel
theorem dX5_weigh_26 : decode cX5_weigh 26 = .ok (.iload_n 3, 1) := by decide +kernel
theorem dX5_weigh_27 : decode cX5_weigh 27 = .ok (.aaload, 1) := by decide +kernel
theorem dX5_weigh_28 : decode cX5_weigh 28 = .ok (.astore 4, 2) := by decide +kernel
theorem dX5_weigh_30 : decode cX5_weigh 30 = .ok (.aload_n 0, 1) := by decide +kernel
theorem dX5_weigh_31 : decode cX5_weigh 31 = .ok (.getfield 21, 3) := by decide +kernel
theorem dX5_weigh_34 : decode cX5_weigh 34 = .ok (.iload_n 3, 1) := by decide +kernel
theorem dX5_weigh_35 : decode cX5_weigh 35 = .ok (.aload 4, 2) := by decide +kernel
theorem dX5_weigh_37 : decode cX5_weigh 37 = .ok (.ifnonnull 7, 3) := by decide +kernel
theorem dX5_weigh_40 : decode cX5_weigh 40 = .ok (.iconst 0, 1) := by decide +kernel
theorem dX5_weigh_41 : decode cX5_weigh 41 = .ok (.goto 17, 3) := by decide +kernel
theorem dX5_weigh_44 : decode cX5_weigh 44 = .ok (.aload_n 0, 1) := by decide +kernel
theorem dX5_weigh_45 : decode cX5_weigh 45 = .ok (.aload 4, 2) := by decide +kernel
theorem dX5_weigh_47 : decode cX5_weigh 47 = .ok (.invokevirtual 50, 3) := by decide +kernel
theorem dX5_weigh_50 : decode cX5_weigh 50 = .ok (.aload 4, 2) := by decide +kernel
theorem dX5_weigh_52 : decode cX5_weigh 52 = .ok (.getfield 56, 3) := by decide +kernel
theorem dX5_weigh_55 : decode cX5_weigh 55 = .ok (.invokevirtual 59, 3) := by decide +kernel
theorem dX5_weigh_58 : decode cX5_weigh 58 = .ok (.iastore, 1) := by decide +kernel
theorem dX5_weigh_59 : decode cX5_weigh 59 = .ok (.iinc 3 1, 3) := by decide +kernel
theorem dX5_weigh_62 : decode cX5_weigh 62 = .ok (.goto (-45), 3) := by decide +kernel
theorem dX5_weigh_65 : decode cX5_weigh 65 = .ok (.return_, 1) := by decide +kernel
theorem dX5_ordersThatFit_0 : decode cX5_ordersThatFit 0 = .ok (.iconst 0, 1) := by decide +kernel
theorem dX5_ordersThatFit_1 : decode cX5_ordersThatFit 1 = .ok (.istore_n 3, 1) := by decide +kernel
theorem dX5_ordersThatFit_2 : decode cX5_ordersThatFit 2 = .ok (.iconst 0, 1) := by decide +kernel
theorem dX5_ordersThatFit_3 : decode cX5_ordersThatFit 3 = .ok (.istore 4, 2) := by decide +kernel
theorem dX5_ordersThatFit_5 : decode cX5_ordersThatFit 5 = .ok (.iload 4, 2) := by decide +kernel
theorem dX5_ordersThatFit_7 : decode cX5_ordersThatFit 7 = .ok (.aload_n 0, 1) := by decide +kernel
theorem dX5_ordersThatFit_8 : decode cX5_ordersThatFit 8 = .ok (.getfield 37, 3) := by decide +kernel
theorem dX5_ordersThatFit_11 : decode cX5_ordersThatFit 11 = .ok (.if_icmp .ge 45, 3) := by decide +kernel
theorem dX5_ordersThatFit_14 : decode cX5_ordersThatFit 14 = .ok (.iload 4, 2) := by decide +kernel
theorem dX5_ordersThatFit_16 : decode cX5_ordersThatFit 16 = .ok (.bipush 8, 2) := by decide +kernel
theorem dX5_ordersThatFit_18 : decode cX5_ordersThatFit 18 = .ok (.if_icmp .ge 38, 3) := by decide +kernel
theorem dX5_ordersThatFit_21 : decode cX5_ordersThatFit 21 = .ok (.iload_n 1, 1) := by decide +kernel
theorem dX5_ordersThatFit_22 : decode cX5_ordersThatFit 22 = .ok (.aload_n 0, 1) := by decide +kernel
theorem dX5_ordersThatFit_23 : decode cX5_ordersThatFit 23 = .ok (.getfield 9, 3) := by decide +kernel
theorem dX5_ordersThatFit_26 : decode cX5_ordersThatFit 26 = .ok (.iload 4, 2) := by decide +kernel
theorem dX5_ordersThatFit_28 : decode cX5_ordersThatFit 28 = .ok (.iaload, 1) := by decide +kernel
theorem dX5_ordersThatFit_29 : decode cX5_ordersThatFit 29 = .ok (.if_icmp .gt 21, 3) := by decide +kernel
theorem dX5_ordersThatFit_32 : decode cX5_ordersThatFit 32 = .ok (.iload_n 2, 1) := by decide +kernel
theorem dX5_ordersThatFit_33 : decode cX5_ordersThatFit 33 = .ok (.aload_n 0, 1) := by decide +kernel
theorem dX5_ordersThatFit_34 : decode cX5_ordersThatFit 34 = .ok (.getfield 15, 3) := by decide +kernel
theorem dX5_ordersThatFit_37 : decode cX5_ordersThatFit 37 = .ok (.iload 4, 2) := by decide +kernel
theorem dX5_ordersThatFit_39 : decode cX5_ordersThatFit 39 = .ok (.iaload, 1) := by decide +kernel
theorem dX5_ordersThatFit_40 : decode cX5_ordersThatFit 40 = .ok (.if_icmp .lt 10, 3) := by decide +kernel
theorem dX5_ordersThatFit_43 : decode cX5_ordersThatFit 43 = .ok (.iload_n 3, 1) := by decide +kernel
theorem dX5_ordersThatFit_44 : decode cX5_ordersThatFit 44 = .ok (.iconst 1, 1) := by decide +kernel
theorem dX5_ordersThatFit_45 : decode cX5_ordersThatFit 45 = .ok (.iload 4, 2) := by decide +kernel
theorem dX5_ordersThatFit_47 : decode cX5_ordersThatFit 47 = .ok (.ishl, 1) := by decide +kernel
theorem dX5_ordersThatFit_48 : decode cX5_ordersThatFit 48 = .ok (.ior, 1) := by decide +kernel
theorem dX5_ordersThatFit_49 : decode cX5_ordersThatFit 49 = .ok (.istore_n 3, 1) := by decide +kernel
theorem dX5_ordersThatFit_50 : decode cX5_ordersThatFit 50 = .ok (.iinc 4 1, 3) := by decide +kernel
theorem dX5_ordersThatFit_53 : decode cX5_ordersThatFit 53 = .ok (.goto (-48), 3) := by decide +kernel
theorem dX5_ordersThatFit_56 : decode cX5_ordersThatFit 56 = .ok (.iload_n 3, 1) := by decide +kernel
theorem dX5_ordersThatFit_57 : decode cX5_ordersThatFit 57 = .ok (.ireturn, 1) := by decide +kernel
theorem dX5_match_0 : decode cX5_match 0 = .ok (.aload_n 0, 1) := by decide +kernel
theorem dX5_match_1 : decode cX5_match 1 = .ok (.aload_n 1, 1) := by decide +kernel
theorem dX5_match_2 : decode cX5_match 2 = .ok (.iload_n 2, 1) := by decide +kernel
theorem dX5_match_3 : decode cX5_match 3 = .ok (.invokevirtual 62, 3) := by decide +kernel
theorem dX5_match_6 : decode cX5_match 6 = .ok (.aload_n 0, 1) := by decide +kernel
theorem dX5_match_7 : decode cX5_match 7 = .ok (.getfield 18, 3) := by decide +kernel
theorem dX5_match_10 : decode cX5_match 10 = .ok (.iconst (-1), 1) := by decide +kernel
theorem dX5_match_11 : decode cX5_match 11 = .ok (.invokestatic 66, 3) := by decide +kernel
theorem dX5_match_14 : decode cX5_match 14 = .ok (.aload_n 0, 1) := by decide +kernel
theorem dX5_match_15 : decode cX5_match 15 = .ok (.getfield 24, 3) := by decide +kernel
theorem dX5_match_18 : decode cX5_match 18 = .ok (.iconst (-1), 1) := by decide +kernel
theorem dX5_match_19 : decode cX5_match 19 = .ok (.invokestatic 66, 3) := by decide +kernel
theorem dX5_match_22 : decode cX5_match 22 = .ok (.iconst 0, 1) := by decide +kernel
theorem dX5_match_23 : decode cX5_match 23 = .ok (.istore_n 3, 1) := by decide +kernel
theorem dX5_match_24 : decode cX5_match 24 = .ok (.iload_n 3, 1) := by decide +kernel
theorem dX5_match_25 : decode cX5_match 25 = .ok (.aload_n 0, 1) := by decide +kernel
theorem dX5_match_26 : decode cX5_match 26 = .ok (.getfield 47, 3) := by decide +kernel
theorem dX5_match_29 : decode cX5_match 29 = .ok (.if_icmp .ge 16, 3) := by decide +kernel
theorem dX5_match_32 : decode cX5_match 32 = .ok (.aload_n 0, 1) := by decide +kernel
theorem dX5_match_33 : decode cX5_match 33 = .ok (.getfield 27, 3) := by decide +kernel
theorem dX5_match_36 : decode cX5_match 36 = .ok (.iload_n 3, 1) := by decide +kernel
theorem dX5_match_37 : decode cX5_match 37 = .ok (.iconst 0, 1) := by decide +kernel
theorem dX5_match_38 : decode cX5_match 38 = .ok (.bastore, 1) := by decide +kernel
theorem dX5_match_39 : decode cX5_match 39 = .ok (.iinc 3 1, 3) := by decide +kernel
theorem dX5_match_42 : decode cX5_match 42 = .ok (.goto (-18), 3) := by decide +kernel
theorem dX5_match_45 : decode cX5_match 45 = .ok (.iconst 0, 1) := by decide +kernel
theorem dX5_match_46 : decode cX5_match 46 = .ok (.istore_n 3, 1) := by decide +kernel
theorem dX5_match_47 : decode cX5_match 47 = .ok (.iload_n 3, 1) := by decide +kernel
theorem dX5_match_48 : decode cX5_match 48 = .ok (.aload_n 0, 1) := by decide +kernel
theorem dX5_match_49 : decode cX5_match 49 = .ok (.getfield 37, 3) := by decide +kernel
theorem dX5_match_52 : decode cX5_match 52 = .ok (.if_icmp .ge 21, 3) := by decide +kernel
theorem dX5_match_55 : decode cX5_match 55 = .ok (.iload_n 3, 1) := by decide +kernel
theorem dX5_match_56 : decode cX5_match 56 = .ok (.bipush 8, 2) := by decide +kernel
theorem dX5_match_58 : decode cX5_match 58 = .ok (.if_icmp .ge 15, 3) := by decide +kernel
theorem dX5_match_61 : decode cX5_match 61 = .ok (.aload_n 0, 1) := by decide +kernel
theorem dX5_match_62 : decode cX5_match 62 = .ok (.iload_n 3, 1) := by decide +kernel
theorem dX5_match_63 : decode cX5_match 63 = .ok (.invokevirtual 72, 3) := by decide +kernel
theorem dX5_match_66 : decode cX5_match 66 = .ok (.pop, 1) := by decide +kernel
theorem dX5_match_67 : decode cX5_match 67 = .ok (.iinc 3 1, 3) := by decide +kernel
theorem dX5_match_70 : decode cX5_match 70 = .ok (.goto (-23), 3) := by decide +kernel
theorem dX5_match_73 : decode cX5_match 73 = .ok (.iconst 0, 1) := by decide +kernel
theorem dX5_match_74 : decode cX5_match 74 = .ok (.istore_n 3, 1) := by decide +kernel
theorem dX5_match_75 : decode cX5_match 75 = .ok (.iload_n 3, 1) := by decide +kernel
theorem dX5_match_76 : decode cX5_match 76 = .ok (.aload_n 0, 1) := by decide +kernel
theorem dX5_match_77 : decode cX5_match 77 = .ok (.getfield 37, 3) := by decide +kernel
theorem dX5_match_80 : decode cX5_match 80 = .ok (.if_icmp .ge 20, 3) := by decide +kernel
theorem dX5_match_83 : decode cX5_match 83 = .ok (.iload_n 3, 1) := by decide +kernel
theorem dX5_match_84 : decode cX5_match 84 = .ok (.bipush 8, 2) := by decide +kernel
theorem dX5_match_86 : decode cX5_match 86 = .ok (.if_icmp .ge 14, 3) := by decide +kernel
theorem dX5_match_89 : decode cX5_match 89 = .ok (.aload_n 0, 1) := by decide +kernel
theorem dX5_match_90 : decode cX5_match 90 = .ok (.iload_n 3, 1) := by decide +kernel
theorem dX5_match_91 : decode cX5_match 91 = .ok (.invokevirtual 76, 3) := by decide +kernel
theorem dX5_match_94 : decode cX5_match 94 = .ok (.iinc 3 1, 3) := by decide +kernel
theorem dX5_match_97 : decode cX5_match 97 = .ok (.goto (-22), 3) := by decide +kernel
theorem dX5_match_100 : decode cX5_match 100 = .ok (.return_, 1) := by decide +kernel
theorem dX5_findBar_0 : decode cX5_findBar 0 = .ok (.aload_n 0, 1) := by decide +kernel
theorem dX5_findBar_1 : decode cX5_findBar 1 = .ok (.getfield 31, 3) := by decide +kernel
theorem dX5_findBar_4 : decode cX5_findBar 4 = .ok (.iconst (-1), 1) := by decide +kernel
theorem dX5_findBar_5 : decode cX5_findBar 5 = .ok (.invokestatic 66, 3) := by decide +kernel
theorem dX5_findBar_8 : decode cX5_findBar 8 = .ok (.aload_n 0, 1) := by decide +kernel
theorem dX5_findBar_9 : decode cX5_findBar 9 = .ok (.getfield 34, 3) := by decide +kernel
theorem dX5_findBar_12 : decode cX5_findBar 12 = .ok (.iconst 0, 1) := by decide +kernel
theorem dX5_findBar_13 : decode cX5_findBar 13 = .ok (.iload_n 1, 1) := by decide +kernel
theorem dX5_findBar_14 : decode cX5_findBar 14 = .ok (.iastore, 1) := by decide +kernel
theorem dX5_findBar_15 : decode cX5_findBar 15 = .ok (.iconst 1, 1) := by decide +kernel
theorem dX5_findBar_16 : decode cX5_findBar 16 = .ok (.istore_n 2, 1) := by decide +kernel
theorem dX5_findBar_17 : decode cX5_findBar 17 = .ok (.iconst 0, 1) := by decide +kernel
theorem dX5_findBar_18 : decode cX5_findBar 18 = .ok (.istore_n 3, 1) := by decide +kernel
theorem dX5_findBar_19 : decode cX5_findBar 19 = .ok (.iload_n 3, 1) := by decide +kernel
theorem dX5_findBar_20 : decode cX5_findBar 20 = .ok (.iload_n 2, 1) := by decide +kernel
theorem dX5_findBar_21 : decode cX5_findBar 21 = .ok (.if_icmp .ge 130, 3) := by decide +kernel
theorem dX5_findBar_24 : decode cX5_findBar 24 = .ok (.iload_n 3, 1) := by decide +kernel
theorem dX5_findBar_25 : decode cX5_findBar 25 = .ok (.bipush 8, 2) := by decide +kernel
theorem dX5_findBar_27 : decode cX5_findBar 27 = .ok (.if_icmp .ge 124, 3) := by decide +kernel
theorem dX5_findBar_30 : decode cX5_findBar 30 = .ok (.aload_n 0, 1) := by decide +kernel
theorem dX5_findBar_31 : decode cX5_findBar 31 = .ok (.getfield 34, 3) := by decide +kernel
theorem dX5_findBar_34 : decode cX5_findBar 34 = .ok (.iload_n 3, 1) := by decide +kernel
theorem dX5_findBar_35 : decode cX5_findBar 35 = .ok (.iaload, 1) := by decide +kernel
theorem dX5_findBar_36 : decode cX5_findBar 36 = .ok (.istore 4, 2) := by decide +kernel
theorem dX5_findBar_38 : decode cX5_findBar 38 = .ok (.iconst 0, 1) := by decide +kernel
theorem dX5_findBar_39 : decode cX5_findBar 39 = .ok (.istore 5, 2) := by decide +kernel
theorem dX5_findBar_41 : decode cX5_findBar 41 = .ok (.iload 5, 2) := by decide +kernel
theorem dX5_findBar_43 : decode cX5_findBar 43 = .ok (.aload_n 0, 1) := by decide +kernel
theorem dX5_findBar_44 : decode cX5_findBar 44 = .ok (.getfield 47, 3) := by decide +kernel
theorem dX5_findBar_47 : decode cX5_findBar 47 = .ok (.if_icmp .ge 98, 3) := by decide +kernel
theorem dX5_findBar_50 : decode cX5_findBar 50 = .ok (.aload_n 0, 1) := by decide +kernel
theorem dX5_findBar_51 : decode cX5_findBar 51 = .ok (.getfield 21, 3) := by decide +kernel
theorem dX5_findBar_54 : decode cX5_findBar 54 = .ok (.iload 5, 2) := by decide +kernel
theorem dX5_findBar_56 : decode cX5_findBar 56 = .ok (.iaload, 1) := by decide +kernel
theorem dX5_findBar_57 : decode cX5_findBar 57 = .ok (.iload 4, 2) := by decide +kernel
theorem dX5_findBar_59 : decode cX5_findBar 59 = .ok (.ishr, 1) := by decide +kernel
theorem dX5_findBar_60 : decode cX5_findBar 60 = .ok (.iconst 1, 1) := by decide +kernel
theorem dX5_findBar_61 : decode cX5_findBar 61 = .ok (.iand, 1) := by decide +kernel
theorem dX5_findBar_62 : decode cX5_findBar 62 = .ok (.ifCond .eq 77, 3) := by decide +kernel
theorem dX5_findBar_65 : decode cX5_findBar 65 = .ok (.aload_n 0, 1) := by decide +kernel
theorem dX5_findBar_66 : decode cX5_findBar 66 = .ok (.getfield 27, 3) := by decide +kernel
theorem dX5_findBar_69 : decode cX5_findBar 69 = .ok (.iload 5, 2) := by decide +kernel
theorem dX5_findBar_71 : decode cX5_findBar 71 = .ok (.baload, 1) := by decide +kernel
theorem dX5_findBar_72 : decode cX5_findBar 72 = .ok (.ifCond .ne 67, 3) := by decide +kernel
theorem dX5_findBar_75 : decode cX5_findBar 75 = .ok (.aload_n 0, 1) := by decide +kernel
theorem dX5_findBar_76 : decode cX5_findBar 76 = .ok (.getfield 31, 3) := by decide +kernel
theorem dX5_findBar_79 : decode cX5_findBar 79 = .ok (.iload 5, 2) := by decide +kernel
theorem dX5_findBar_81 : decode cX5_findBar 81 = .ok (.iaload, 1) := by decide +kernel
theorem dX5_findBar_82 : decode cX5_findBar 82 = .ok (.iconst (-1), 1) := by decide +kernel
theorem dX5_findBar_83 : decode cX5_findBar 83 = .ok (.if_icmp .eq 6, 3) := by decide +kernel
theorem dX5_findBar_86 : decode cX5_findBar 86 = .ok (.goto 53, 3) := by decide +kernel
theorem dX5_findBar_89 : decode cX5_findBar 89 = .ok (.aload_n 0, 1) := by decide +kernel
theorem dX5_findBar_90 : decode cX5_findBar 90 = .ok (.getfield 31, 3) := by decide +kernel
theorem dX5_findBar_93 : decode cX5_findBar 93 = .ok (.iload 5, 2) := by decide +kernel
theorem dX5_findBar_95 : decode cX5_findBar 95 = .ok (.iload 4, 2) := by decide +kernel
theorem dX5_findBar_97 : decode cX5_findBar 97 = .ok (.iastore, 1) := by decide +kernel
theorem dX5_findBar_98 : decode cX5_findBar 98 = .ok (.aload_n 0, 1) := by decide +kernel
theorem dX5_findBar_99 : decode cX5_findBar 99 = .ok (.getfield 24, 3) := by decide +kernel
theorem dX5_findBar_102 : decode cX5_findBar 102 = .ok (.iload 5, 2) := by decide +kernel
theorem dX5_findBar_104 : decode cX5_findBar 104 = .ok (.iaload, 1) := by decide +kernel
theorem dX5_findBar_105 : decode cX5_findBar 105 = .ok (.iconst (-1), 1) := by decide +kernel
theorem dX5_findBar_106 : decode cX5_findBar 106 = .ok (.if_icmp .ne 11, 3) := by decide +kernel
theorem dX5_findBar_109 : decode cX5_findBar 109 = .ok (.aload_n 0, 1) := by decide +kernel
theorem dX5_findBar_110 : decode cX5_findBar 110 = .ok (.iload 5, 2) := by decide +kernel
theorem dX5_findBar_112 : decode cX5_findBar 112 = .ok (.invokevirtual 80, 3) := by decide +kernel
theorem dX5_findBar_115 : decode cX5_findBar 115 = .ok (.iconst 1, 1) := by decide +kernel
theorem dX5_findBar_116 : decode cX5_findBar 116 = .ok (.ireturn, 1) := by decide +kernel
theorem dX5_findBar_117 : decode cX5_findBar 117 = .ok (.iload_n 2, 1) := by decide +kernel
theorem dX5_findBar_118 : decode cX5_findBar 118 = .ok (.bipush 8, 2) := by decide +kernel
theorem dX5_findBar_120 : decode cX5_findBar 120 = .ok (.if_icmp .ge 19, 3) := by decide +kernel
theorem dX5_findBar_123 : decode cX5_findBar 123 = .ok (.aload_n 0, 1) := by decide +kernel
theorem dX5_findBar_124 : decode cX5_findBar 124 = .ok (.getfield 34, 3) := by decide +kernel
theorem dX5_findBar_127 : decode cX5_findBar 127 = .ok (.iload_n 2, 1) := by decide +kernel
theorem dX5_findBar_128 : decode cX5_findBar 128 = .ok (.aload_n 0, 1) := by decide +kernel
theorem dX5_findBar_129 : decode cX5_findBar 129 = .ok (.getfield 24, 3) := by decide +kernel
theorem dX5_findBar_132 : decode cX5_findBar 132 = .ok (.iload 5, 2) := by decide +kernel
theorem dX5_findBar_134 : decode cX5_findBar 134 = .ok (.iaload, 1) := by decide +kernel
theorem dX5_findBar_135 : decode cX5_findBar 135 = .ok (.iastore, 1) := by decide +kernel
theorem dX5_findBar_136 : decode cX5_findBar 136 = .ok (.iinc 2 1, 3) := by decide +kernel
theorem dX5_findBar_139 : decode cX5_findBar 139 = .ok (.iinc 5 1, 3) := by decide +kernel
theorem dX5_findBar_142 : decode cX5_findBar 142 = .ok (.goto (-101), 3) := by decide +kernel
theorem dX5_findBar_145 : decode cX5_findBar 145 = .ok (.iinc 3 1, 3) := by decide +kernel
theorem dX5_findBar_148 : decode cX5_findBar 148 = .ok (.goto (-129), 3) := by decide +kernel
theorem dX5_findBar_151 : decode cX5_findBar 151 = .ok (.iconst 0, 1) := by decide +kernel
theorem dX5_findBar_152 : decode cX5_findBar 152 = .ok (.ireturn, 1) := by decide +kernel
theorem dX5_handOver_0 : decode cX5_handOver 0 = .ok (.iload_n 1, 1) := by decide +kernel
theorem dX5_handOver_1 : decode cX5_handOver 1 = .ok (.istore_n 2, 1) := by decide +kernel
theorem dX5_handOver_2 : decode cX5_handOver 2 = .ok (.iconst 0, 1) := by decide +kernel
theorem dX5_handOver_3 : decode cX5_handOver 3 = .ok (.istore_n 3, 1) := by decide +kernel
theorem dX5_handOver_4 : decode cX5_handOver 4 = .ok (.iload_n 3, 1) := by decide +kernel
theorem dX5_handOver_5 : decode cX5_handOver 5 = .ok (.bipush 8, 2) := by decide +kernel
theorem dX5_handOver_7 : decode cX5_handOver 7 = .ok (.if_icmp .ge 68, 3) := by decide +kernel
theorem dX5_handOver_10 : decode cX5_handOver 10 = .ok (.iload_n 2, 1) := by decide +kernel
theorem dX5_handOver_11 : decode cX5_handOver 11 = .ok (.ifCond .lt 64, 3) := by decide +kernel
theorem dX5_handOver_14 : decode cX5_handOver 14 = .ok (.iload_n 2, 1) := by decide +kernel
theorem dX5_handOver_15 : decode cX5_handOver 15 = .ok (.bipush 100, 2) := by decide +kernel
theorem dX5_handOver_17 : decode cX5_handOver 17 = .ok (.if_icmp .ge 58, 3) := by decide +kernel
theorem dX5_handOver_20 : decode cX5_handOver 20 = .ok (.aload_n 0, 1) := by decide +kernel
theorem dX5_handOver_21 : decode cX5_handOver 21 = .ok (.getfield 31, 3) := by decide +kernel
theorem dX5_handOver_24 : decode cX5_handOver 24 = .ok (.iload_n 2, 1) := by decide +kernel
theorem dX5_handOver_25 : decode cX5_handOver 25 = .ok (.iaload, 1) := by decide +kernel
theorem dX5_handOver_26 : decode cX5_handOver 26 = .ok (.istore 4, 2) := by decide +kernel
theorem dX5_handOver_28 : decode cX5_handOver 28 = .ok (.iload 4, 2) := by decide +kernel
theorem dX5_handOver_30 : decode cX5_handOver 30 = .ok (.ifCond .lt 10, 3) := by decide +kernel
theorem dX5_handOver_33 : decode cX5_handOver 33 = .ok (.iload 4, 2) := by decide +kernel
theorem dX5_handOver_35 : decode cX5_handOver 35 = .ok (.bipush 8, 2) := by decide +kernel
theorem dX5_handOver_37 : decode cX5_handOver 37 = .ok (.if_icmp .lt 4, 3) := by decide +kernel
theorem dX5_handOver_40 : decode cX5_handOver 40 = .ok (.return_, 1) := by decide +kernel
theorem dX5_handOver_41 : decode cX5_handOver 41 = .ok (.aload_n 0, 1) := by decide +kernel
theorem dX5_handOver_42 : decode cX5_handOver 42 = .ok (.getfield 18, 3) := by decide +kernel
theorem dX5_handOver_45 : decode cX5_handOver 45 = .ok (.iload 4, 2) := by decide +kernel
theorem dX5_handOver_47 : decode cX5_handOver 47 = .ok (.iaload, 1) := by decide +kernel
theorem dX5_handOver_48 : decode cX5_handOver 48 = .ok (.istore 5, 2) := by decide +kernel
theorem dX5_handOver_50 : decode cX5_handOver 50 = .ok (.aload_n 0, 1) := by decide +kernel
theorem dX5_handOver_51 : decode cX5_handOver 51 = .ok (.getfield 18, 3) := by decide +kernel
theorem dX5_handOver_54 : decode cX5_handOver 54 = .ok (.iload 4, 2) := by decide +kernel
theorem dX5_handOver_56 : decode cX5_handOver 56 = .ok (.iload_n 2, 1) := by decide +kernel
theorem dX5_handOver_57 : decode cX5_handOver 57 = .ok (.iastore, 1) := by decide +kernel
theorem dX5_handOver_58 : decode cX5_handOver 58 = .ok (.aload_n 0, 1) := by decide +kernel
theorem dX5_handOver_59 : decode cX5_handOver 59 = .ok (.getfield 24, 3) := by decide +kernel
theorem dX5_handOver_62 : decode cX5_handOver 62 = .ok (.iload_n 2, 1) := by decide +kernel
theorem dX5_handOver_63 : decode cX5_handOver 63 = .ok (.iload 4, 2) := by decide +kernel
theorem dX5_handOver_65 : decode cX5_handOver 65 = .ok (.iastore, 1) := by decide +kernel
theorem dX5_handOver_66 : decode cX5_handOver 66 = .ok (.iload 5, 2) := by decide +kernel
theorem dX5_handOver_68 : decode cX5_handOver 68 = .ok (.istore_n 2, 1) := by decide +kernel
theorem dX5_handOver_69 : decode cX5_handOver 69 = .ok (.iinc 3 1, 3) := by decide +kernel
theorem dX5_handOver_72 : decode cX5_handOver 72 = .ok (.goto (-68), 3) := by decide +kernel
theorem dX5_handOver_75 : decode cX5_handOver 75 = .ok (.return_, 1) := by decide +kernel
theorem dX5_promiseLowest_0 : decode cX5_promiseLowest 0 = .ok (.iconst 0, 1) := by decide +kernel
theorem dX5_promiseLowest_1 : decode cX5_promiseLowest 1 = .ok (.istore_n 2, 1) := by decide +kernel
theorem dX5_promiseLowest_2 : decode cX5_promiseLowest 2 = .ok (.iload_n 2, 1) := by decide +kernel
theorem dX5_promiseLowest_3 : decode cX5_promiseLowest 3 = .ok (.aload_n 0, 1) := by decide +kernel
theorem dX5_promiseLowest_4 : decode cX5_promiseLowest 4 = .ok (.getfield 47, 3) := by decide +kernel
theorem dX5_promiseLowest_7 : decode cX5_promiseLowest 7 = .ok (.if_icmp .ge 68, 3) := by decide +kernel
theorem dX5_promiseLowest_10 : decode cX5_promiseLowest 10 = .ok (.aload_n 0, 1) := by decide +kernel
theorem dX5_promiseLowest_11 : decode cX5_promiseLowest 11 = .ok (.getfield 21, 3) := by decide +kernel
theorem dX5_promiseLowest_14 : decode cX5_promiseLowest 14 = .ok (.iload_n 2, 1) := by decide +kernel
theorem dX5_promiseLowest_15 : decode cX5_promiseLowest 15 = .ok (.iaload, 1) := by decide +kernel
theorem dX5_promiseLowest_16 : decode cX5_promiseLowest 16 = .ok (.iload_n 1, 1) := by decide +kernel
theorem dX5_promiseLowest_17 : decode cX5_promiseLowest 17 = .ok (.ishr, 1) := by decide +kernel
theorem dX5_promiseLowest_18 : decode cX5_promiseLowest 18 = .ok (.iconst 1, 1) := by decide +kernel
theorem dX5_promiseLowest_19 : decode cX5_promiseLowest 19 = .ok (.iand, 1) := by decide +kernel
theorem dX5_promiseLowest_20 : decode cX5_promiseLowest 20 = .ok (.ifCond .eq 16, 3) := by decide +kernel
theorem dX5_promiseLowest_23 : decode cX5_promiseLowest 23 = .ok (.aload_n 0, 1) := by decide +kernel
theorem dX5_promiseLowest_24 : decode cX5_promiseLowest 24 = .ok (.getfield 27, 3) := by decide +kernel
theorem dX5_promiseLowest_27 : decode cX5_promiseLowest 27 = .ok (.iload_n 2, 1) := by decide +kernel
theorem dX5_promiseLowest_28 : decode cX5_promiseLowest 28 = .ok (.baload, 1) := by decide +kernel
theorem dX5_promiseLowest_29 : decode cX5_promiseLowest 29 = .ok (.ifCond .ne 7, 3) := by decide +kernel
theorem dX5_promiseLowest_32 : decode cX5_promiseLowest 32 = .ok (.iconst 1, 1) := by decide +kernel
theorem dX5_promiseLowest_33 : decode cX5_promiseLowest 33 = .ok (.goto 4, 3) := by decide +kernel
theorem dX5_promiseLowest_36 : decode cX5_promiseLowest 36 = .ok (.iconst 0, 1) := by decide +kernel
theorem dX5_promiseLowest_37 : decode cX5_promiseLowest 37 = .ok (.istore_n 3, 1) := by decide +kernel
theorem dX5_promiseLowest_38 : decode cX5_promiseLowest 38 = .ok (.iload_n 3, 1) := by decide +kernel
theorem dX5_promiseLowest_39 : decode cX5_promiseLowest 39 = .ok (.ifCond .eq 30, 3) := by decide +kernel
theorem dX5_promiseLowest_42 : decode cX5_promiseLowest 42 = .ok (.aload_n 0, 1) := by decide +kernel
theorem dX5_promiseLowest_43 : decode cX5_promiseLowest 43 = .ok (.getfield 18, 3) := by decide +kernel
theorem dX5_promiseLowest_46 : decode cX5_promiseLowest 46 = .ok (.iload_n 1, 1) := by decide +kernel
theorem dX5_promiseLowest_47 : decode cX5_promiseLowest 47 = .ok (.iaload, 1) := by decide +kernel
theorem dX5_promiseLowest_48 : decode cX5_promiseLowest 48 = .ok (.iload_n 2, 1) := by decide +kernel
theorem dX5_promiseLowest_49 : decode cX5_promiseLowest 49 = .ok (.if_icmp .eq 12, 3) := by decide +kernel
theorem dX5_promiseLowest_52 : decode cX5_promiseLowest 52 = .ok (.aload_n 0, 1) := by decide +kernel
theorem dX5_promiseLowest_53 : decode cX5_promiseLowest 53 = .ok (.iload_n 1, 1) := by decide +kernel
theorem dX5_promiseLowest_54 : decode cX5_promiseLowest 54 = .ok (.iload_n 2, 1) := by decide +kernel
theorem dX5_promiseLowest_55 : decode cX5_promiseLowest 55 = .ok (.invokevirtual 83, 3) := by decide +kernel
theorem dX5_promiseLowest_58 : decode cX5_promiseLowest 58 = .ok (.ifCond .eq 11, 3) := by decide +kernel
theorem dX5_promiseLowest_61 : decode cX5_promiseLowest 61 = .ok (.aload_n 0, 1) := by decide +kernel
theorem dX5_promiseLowest_62 : decode cX5_promiseLowest 62 = .ok (.getfield 27, 3) := by decide +kernel
theorem dX5_promiseLowest_65 : decode cX5_promiseLowest 65 = .ok (.iload_n 2, 1) := by decide +kernel
theorem dX5_promiseLowest_66 : decode cX5_promiseLowest 66 = .ok (.iconst 1, 1) := by decide +kernel
theorem dX5_promiseLowest_67 : decode cX5_promiseLowest 67 = .ok (.bastore, 1) := by decide +kernel
theorem dX5_promiseLowest_68 : decode cX5_promiseLowest 68 = .ok (.return_, 1) := by decide +kernel
theorem dX5_promiseLowest_69 : decode cX5_promiseLowest 69 = .ok (.iinc 2 1, 3) := by decide +kernel
theorem dX5_promiseLowest_72 : decode cX5_promiseLowest 72 = .ok (.goto (-70), 3) := by decide +kernel
theorem dX5_promiseLowest_75 : decode cX5_promiseLowest 75 = .ok (.return_, 1) := by decide +kernel
theorem dX5_moveTo_0 : decode cX5_moveTo 0 = .ok (.aload_n 0, 1) := by decide +kernel
theorem dX5_moveTo_1 : decode cX5_moveTo 1 = .ok (.getfield 18, 3) := by decide +kernel
theorem dX5_moveTo_4 : decode cX5_moveTo 4 = .ok (.iload_n 1, 1) := by decide +kernel
theorem dX5_moveTo_5 : decode cX5_moveTo 5 = .ok (.iaload, 1) := by decide +kernel
theorem dX5_moveTo_6 : decode cX5_moveTo 6 = .ok (.istore_n 3, 1) := by decide +kernel
theorem dX5_moveTo_7 : decode cX5_moveTo 7 = .ok (.aload_n 0, 1) := by decide +kernel
theorem dX5_moveTo_8 : decode cX5_moveTo 8 = .ok (.getfield 24, 3) := by decide +kernel
theorem dX5_moveTo_11 : decode cX5_moveTo 11 = .ok (.iload_n 2, 1) := by decide +kernel
theorem dX5_moveTo_12 : decode cX5_moveTo 12 = .ok (.iaload, 1) := by decide +kernel
theorem dX5_moveTo_13 : decode cX5_moveTo 13 = .ok (.istore 4, 2) := by decide +kernel
theorem dX5_moveTo_15 : decode cX5_moveTo 15 = .ok (.iload_n 3, 1) := by decide +kernel
theorem dX5_moveTo_16 : decode cX5_moveTo 16 = .ok (.ifCond .lt 13, 3) := by decide +kernel
theorem dX5_moveTo_19 : decode cX5_moveTo 19 = .ok (.iload_n 3, 1) := by decide +kernel
theorem dX5_moveTo_20 : decode cX5_moveTo 20 = .ok (.bipush 100, 2) := by decide +kernel
theorem dX5_moveTo_22 : decode cX5_moveTo 22 = .ok (.if_icmp .ge 7, 3) := by decide +kernel
theorem dX5_moveTo_25 : decode cX5_moveTo 25 = .ok (.iconst 1, 1) := by decide +kernel
theorem dX5_moveTo_26 : decode cX5_moveTo 26 = .ok (.goto 4, 3) := by decide +kernel
theorem dX5_moveTo_29 : decode cX5_moveTo 29 = .ok (.iconst 0, 1) := by decide +kernel
theorem dX5_moveTo_30 : decode cX5_moveTo 30 = .ok (.istore 5, 2) := by decide +kernel
theorem dX5_moveTo_32 : decode cX5_moveTo 32 = .ok (.iload 4, 2) := by decide +kernel
theorem dX5_moveTo_34 : decode cX5_moveTo 34 = .ok (.ifCond .lt 14, 3) := by decide +kernel
theorem dX5_moveTo_37 : decode cX5_moveTo 37 = .ok (.iload 4, 2) := by decide +kernel
theorem dX5_moveTo_39 : decode cX5_moveTo 39 = .ok (.bipush 8, 2) := by decide +kernel
theorem dX5_moveTo_41 : decode cX5_moveTo 41 = .ok (.if_icmp .ge 7, 3) := by decide +kernel
theorem dX5_moveTo_44 : decode cX5_moveTo 44 = .ok (.iconst 1, 1) := by decide +kernel
theorem dX5_moveTo_45 : decode cX5_moveTo 45 = .ok (.goto 4, 3) := by decide +kernel
theorem dX5_moveTo_48 : decode cX5_moveTo 48 = .ok (.iconst 0, 1) := by decide +kernel
theorem dX5_moveTo_49 : decode cX5_moveTo 49 = .ok (.istore 6, 2) := by decide +kernel
theorem dX5_moveTo_51 : decode cX5_moveTo 51 = .ok (.iload 5, 2) := by decide +kernel
theorem dX5_moveTo_53 : decode cX5_moveTo 53 = .ok (.ifCond .eq 10, 3) := by decide +kernel
theorem dX5_moveTo_56 : decode cX5_moveTo 56 = .ok (.aload_n 0, 1) := by decide +kernel
theorem dX5_moveTo_57 : decode cX5_moveTo 57 = .ok (.getfield 24, 3) := by decide +kernel
theorem dX5_moveTo_60 : decode cX5_moveTo 60 = .ok (.iload_n 3, 1) := by decide +kernel
theorem dX5_moveTo_61 : decode cX5_moveTo 61 = .ok (.iconst (-1), 1) := by decide +kernel
theorem dX5_moveTo_62 : decode cX5_moveTo 62 = .ok (.iastore, 1) := by decide +kernel
theorem dX5_moveTo_63 : decode cX5_moveTo 63 = .ok (.iload 6, 2) := by decide +kernel
theorem dX5_moveTo_65 : decode cX5_moveTo 65 = .ok (.ifCond .eq 11, 3) := by decide +kernel
theorem dX5_moveTo_68 : decode cX5_moveTo 68 = .ok (.aload_n 0, 1) := by decide +kernel
theorem dX5_moveTo_69 : decode cX5_moveTo 69 = .ok (.getfield 18, 3) := by decide +kernel
theorem dX5_moveTo_72 : decode cX5_moveTo 72 = .ok (.iload 4, 2) := by decide +kernel
theorem dX5_moveTo_74 : decode cX5_moveTo 74 = .ok (.iconst (-1), 1) := by decide +kernel
theorem dX5_moveTo_75 : decode cX5_moveTo 75 = .ok (.iastore, 1) := by decide +kernel
theorem dX5_moveTo_76 : decode cX5_moveTo 76 = .ok (.aload_n 0, 1) := by decide +kernel
theorem dX5_moveTo_77 : decode cX5_moveTo 77 = .ok (.getfield 24, 3) := by decide +kernel
theorem dX5_moveTo_80 : decode cX5_moveTo 80 = .ok (.iload_n 2, 1) := by decide +kernel
theorem dX5_moveTo_81 : decode cX5_moveTo 81 = .ok (.iload_n 1, 1) := by decide +kernel
theorem dX5_moveTo_82 : decode cX5_moveTo 82 = .ok (.iastore, 1) := by decide +kernel
theorem dX5_moveTo_83 : decode cX5_moveTo 83 = .ok (.aload_n 0, 1) := by decide +kernel
theorem dX5_moveTo_84 : decode cX5_moveTo 84 = .ok (.getfield 18, 3) := by decide +kernel
theorem dX5_moveTo_87 : decode cX5_moveTo 87 = .ok (.iload_n 1, 1) := by decide +kernel
theorem dX5_moveTo_88 : decode cX5_moveTo 88 = .ok (.iload_n 2, 1) := by decide +kernel
theorem dX5_moveTo_89 : decode cX5_moveTo 89 = .ok (.iastore, 1) := by decide +kernel
theorem dX5_moveTo_90 : decode cX5_moveTo 90 = .ok (.aload_n 0, 1) := by decide +kernel
theorem dX5_moveTo_91 : decode cX5_moveTo 91 = .ok (.getfield 27, 3) := by decide +kernel
theorem dX5_moveTo_94 : decode cX5_moveTo 94 = .ok (.iload_n 2, 1) := by decide +kernel
theorem dX5_moveTo_95 : decode cX5_moveTo 95 = .ok (.iconst 1, 1) := by decide +kernel
theorem dX5_moveTo_96 : decode cX5_moveTo 96 = .ok (.bastore, 1) := by decide +kernel
theorem dX5_moveTo_97 : decode cX5_moveTo 97 = .ok (.iload 5, 2) := by decide +kernel
theorem dX5_moveTo_99 : decode cX5_moveTo 99 = .ok (.ifCond .eq 16, 3) := by decide +kernel
theorem dX5_moveTo_102 : decode cX5_moveTo 102 = .ok (.iload 6, 2) := by decide +kernel
theorem dX5_moveTo_104 : decode cX5_moveTo 104 = .ok (.ifCond .eq 11, 3) := by decide +kernel
theorem dX5_moveTo_107 : decode cX5_moveTo 107 = .ok (.aload_n 0, 1) := by decide +kernel
theorem dX5_moveTo_108 : decode cX5_moveTo 108 = .ok (.iload_n 1, 1) := by decide +kernel
theorem dX5_moveTo_109 : decode cX5_moveTo 109 = .ok (.invokevirtual 87, 3) := by decide +kernel
theorem dX5_moveTo_112 : decode cX5_moveTo 112 = .ok (.ifCond .eq 5, 3) := by decide +kernel
theorem dX5_moveTo_115 : decode cX5_moveTo 115 = .ok (.iconst 1, 1) := by decide +kernel
theorem dX5_moveTo_116 : decode cX5_moveTo 116 = .ok (.ireturn, 1) := by decide +kernel
theorem dX5_moveTo_117 : decode cX5_moveTo 117 = .ok (.aload_n 0, 1) := by decide +kernel
theorem dX5_moveTo_118 : decode cX5_moveTo 118 = .ok (.getfield 27, 3) := by decide +kernel
theorem dX5_moveTo_121 : decode cX5_moveTo 121 = .ok (.iload_n 2, 1) := by decide +kernel
theorem dX5_moveTo_122 : decode cX5_moveTo 122 = .ok (.iconst 0, 1) := by decide +kernel
theorem dX5_moveTo_123 : decode cX5_moveTo 123 = .ok (.bastore, 1) := by decide +kernel
theorem dX5_moveTo_124 : decode cX5_moveTo 124 = .ok (.aload_n 0, 1) := by decide +kernel
theorem dX5_moveTo_125 : decode cX5_moveTo 125 = .ok (.getfield 24, 3) := by decide +kernel
theorem dX5_moveTo_128 : decode cX5_moveTo 128 = .ok (.iload_n 3, 1) := by decide +kernel
theorem dX5_moveTo_129 : decode cX5_moveTo 129 = .ok (.iload_n 1, 1) := by decide +kernel
theorem dX5_moveTo_130 : decode cX5_moveTo 130 = .ok (.iastore, 1) := by decide +kernel
theorem dX5_moveTo_131 : decode cX5_moveTo 131 = .ok (.aload_n 0, 1) := by decide +kernel
theorem dX5_moveTo_132 : decode cX5_moveTo 132 = .ok (.getfield 24, 3) := by decide +kernel
theorem dX5_moveTo_135 : decode cX5_moveTo 135 = .ok (.iload_n 2, 1) := by decide +kernel
theorem dX5_moveTo_136 : decode cX5_moveTo 136 = .ok (.iload 4, 2) := by decide +kernel
theorem dX5_moveTo_138 : decode cX5_moveTo 138 = .ok (.iastore, 1) := by decide +kernel
theorem dX5_moveTo_139 : decode cX5_moveTo 139 = .ok (.aload_n 0, 1) := by decide +kernel
theorem dX5_moveTo_140 : decode cX5_moveTo 140 = .ok (.getfield 18, 3) := by decide +kernel
theorem dX5_moveTo_143 : decode cX5_moveTo 143 = .ok (.iload_n 1, 1) := by decide +kernel
theorem dX5_moveTo_144 : decode cX5_moveTo 144 = .ok (.iload_n 3, 1) := by decide +kernel
theorem dX5_moveTo_145 : decode cX5_moveTo 145 = .ok (.iastore, 1) := by decide +kernel
theorem dX5_moveTo_146 : decode cX5_moveTo 146 = .ok (.aload_n 0, 1) := by decide +kernel
theorem dX5_moveTo_147 : decode cX5_moveTo 147 = .ok (.getfield 18, 3) := by decide +kernel
theorem dX5_moveTo_150 : decode cX5_moveTo 150 = .ok (.iload 4, 2) := by decide +kernel
theorem dX5_moveTo_152 : decode cX5_moveTo 152 = .ok (.iload_n 2, 1) := by decide +kernel
theorem dX5_moveTo_153 : decode cX5_moveTo 153 = .ok (.iastore, 1) := by decide +kernel
theorem dX5_moveTo_154 : decode cX5_moveTo 154 = .ok (.iconst 0, 1) := by decide +kernel
theorem dX5_moveTo_155 : decode cX5_moveTo 155 = .ok (.ireturn, 1) := by decide +kernel
theorem dX5_findBarAfter_0 : decode cX5_findBarAfter 0 = .ok (.iload_n 1, 1) := by decide +kernel
theorem dX5_findBarAfter_1 : decode cX5_findBarAfter 1 = .ok (.iconst 1, 1) := by decide +kernel
theorem dX5_findBarAfter_2 : decode cX5_findBarAfter 2 = .ok (.iadd, 1) := by decide +kernel
theorem dX5_findBarAfter_3 : decode cX5_findBarAfter 3 = .ok (.istore_n 2, 1) := by decide +kernel
theorem dX5_findBarAfter_4 : decode cX5_findBarAfter 4 = .ok (.iload_n 2, 1) := by decide +kernel
theorem dX5_findBarAfter_5 : decode cX5_findBarAfter 5 = .ok (.aload_n 0, 1) := by decide +kernel
theorem dX5_findBarAfter_6 : decode cX5_findBarAfter 6 = .ok (.getfield 37, 3) := by decide +kernel
theorem dX5_findBarAfter_9 : decode cX5_findBarAfter 9 = .ok (.if_icmp .ge 35, 3) := by decide +kernel
theorem dX5_findBarAfter_12 : decode cX5_findBarAfter 12 = .ok (.iload_n 2, 1) := by decide +kernel
theorem dX5_findBarAfter_13 : decode cX5_findBarAfter 13 = .ok (.bipush 8, 2) := by decide +kernel
theorem dX5_findBarAfter_15 : decode cX5_findBarAfter 15 = .ok (.if_icmp .ge 29, 3) := by decide +kernel
theorem dX5_findBarAfter_18 : decode cX5_findBarAfter 18 = .ok (.aload_n 0, 1) := by decide +kernel
theorem dX5_findBarAfter_19 : decode cX5_findBarAfter 19 = .ok (.getfield 18, 3) := by decide +kernel
theorem dX5_findBarAfter_22 : decode cX5_findBarAfter 22 = .ok (.iload_n 2, 1) := by decide +kernel
theorem dX5_findBarAfter_23 : decode cX5_findBarAfter 23 = .ok (.iaload, 1) := by decide +kernel
theorem dX5_findBarAfter_24 : decode cX5_findBarAfter 24 = .ok (.iconst (-1), 1) := by decide +kernel
theorem dX5_findBarAfter_25 : decode cX5_findBarAfter 25 = .ok (.if_icmp .ne 13, 3) := by decide +kernel
theorem dX5_findBarAfter_28 : decode cX5_findBarAfter 28 = .ok (.aload_n 0, 1) := by decide +kernel
theorem dX5_findBarAfter_29 : decode cX5_findBarAfter 29 = .ok (.iload_n 2, 1) := by decide +kernel
theorem dX5_findBarAfter_30 : decode cX5_findBarAfter 30 = .ok (.invokevirtual 72, 3) := by decide +kernel
theorem dX5_findBarAfter_33 : decode cX5_findBarAfter 33 = .ok (.ifCond .eq 5, 3) := by decide +kernel
theorem dX5_findBarAfter_36 : decode cX5_findBarAfter 36 = .ok (.iconst 1, 1) := by decide +kernel
theorem dX5_findBarAfter_37 : decode cX5_findBarAfter 37 = .ok (.ireturn, 1) := by decide +kernel
theorem dX5_findBarAfter_38 : decode cX5_findBarAfter 38 = .ok (.iinc 2 1, 3) := by decide +kernel
theorem dX5_findBarAfter_41 : decode cX5_findBarAfter 41 = .ok (.goto (-37), 3) := by decide +kernel
theorem dX5_findBarAfter_44 : decode cX5_findBarAfter 44 = .ok (.iconst 0, 1) := by decide +kernel
theorem dX5_findBarAfter_45 : decode cX5_findBarAfter 45 = .ok (.ireturn, 1) := by decide +kernel
theorem dX5_metCount_0 : decode cX5_metCount 0 = .ok (.iconst 0, 1) := by decide +kernel
theorem dX5_metCount_1 : decode cX5_metCount 1 = .ok (.istore_n 1, 1) := by decide +kernel
theorem dX5_metCount_2 : decode cX5_metCount 2 = .ok (.iconst 0, 1) := by decide +kernel
theorem dX5_metCount_3 : decode cX5_metCount 3 = .ok (.istore_n 2, 1) := by decide +kernel
theorem dX5_metCount_4 : decode cX5_metCount 4 = .ok (.iload_n 2, 1) := by decide +kernel
theorem dX5_metCount_5 : decode cX5_metCount 5 = .ok (.aload_n 0, 1) := by decide +kernel
theorem dX5_metCount_6 : decode cX5_metCount 6 = .ok (.getfield 37, 3) := by decide +kernel
theorem dX5_metCount_9 : decode cX5_metCount 9 = .ok (.if_icmp .ge 28, 3) := by decide +kernel
theorem dX5_metCount_12 : decode cX5_metCount 12 = .ok (.iload_n 2, 1) := by decide +kernel
theorem dX5_metCount_13 : decode cX5_metCount 13 = .ok (.bipush 8, 2) := by decide +kernel
theorem dX5_metCount_15 : decode cX5_metCount 15 = .ok (.if_icmp .ge 22, 3) := by decide +kernel
theorem dX5_metCount_18 : decode cX5_metCount 18 = .ok (.aload_n 0, 1) := by decide +kernel
theorem dX5_metCount_19 : decode cX5_metCount 19 = .ok (.getfield 18, 3) := by decide +kernel
theorem dX5_metCount_22 : decode cX5_metCount 22 = .ok (.iload_n 2, 1) := by decide +kernel
theorem dX5_metCount_23 : decode cX5_metCount 23 = .ok (.iaload, 1) := by decide +kernel
theorem dX5_metCount_24 : decode cX5_metCount 24 = .ok (.iconst (-1), 1) := by decide +kernel
theorem dX5_metCount_25 : decode cX5_metCount 25 = .ok (.if_icmp .eq 6, 3) := by decide +kernel
theorem dX5_metCount_28 : decode cX5_metCount 28 = .ok (.iinc 1 1, 3) := by decide +kernel
theorem dX5_metCount_31 : decode cX5_metCount 31 = .ok (.iinc 2 1, 3) := by decide +kernel
theorem dX5_metCount_34 : decode cX5_metCount 34 = .ok (.goto (-30), 3) := by decide +kernel
theorem dX5_metCount_37 : decode cX5_metCount 37 = .ok (.iload_n 1, 1) := by decide +kernel
theorem dX5_metCount_38 : decode cX5_metCount 38 = .ok (.ireturn, 1) := by decide +kernel
theorem dX5_leastWanting_0 : decode cX5_leastWanting 0 = .ok (.iconst 1, 1) := by decide +kernel
theorem dX5_leastWanting_1 : decode cX5_leastWanting 1 = .ok (.istore_n 1, 1) := by decide +kernel
theorem dX5_leastWanting_2 : decode cX5_leastWanting 2 = .ok (.iload_n 1, 1) := by decide +kernel
theorem dX5_leastWanting_3 : decode cX5_leastWanting 3 = .ok (.iconst 1, 1) := by decide +kernel
theorem dX5_leastWanting_4 : decode cX5_leastWanting 4 = .ok (.aload_n 0, 1) := by decide +kernel
theorem dX5_leastWanting_5 : decode cX5_leastWanting 5 = .ok (.getfield 37, 3) := by decide +kernel
theorem dX5_leastWanting_8 : decode cX5_leastWanting 8 = .ok (.bipush 8, 2) := by decide +kernel
theorem dX5_leastWanting_10 : decode cX5_leastWanting 10 = .ok (.invokestatic 41, 3) := by decide +kernel
theorem dX5_leastWanting_13 : decode cX5_leastWanting 13 = .ok (.ishl, 1) := by decide +kernel
theorem dX5_leastWanting_14 : decode cX5_leastWanting 14 = .ok (.if_icmp .ge 23, 3) := by decide +kernel
theorem dX5_leastWanting_17 : decode cX5_leastWanting 17 = .ok (.aload_n 0, 1) := by decide +kernel
theorem dX5_leastWanting_18 : decode cX5_leastWanting 18 = .ok (.iload_n 1, 1) := by decide +kernel
theorem dX5_leastWanting_19 : decode cX5_leastWanting 19 = .ok (.invokevirtual 90, 3) := by decide +kernel
theorem dX5_leastWanting_22 : decode cX5_leastWanting 22 = .ok (.iload_n 1, 1) := by decide +kernel
theorem dX5_leastWanting_23 : decode cX5_leastWanting 23 = .ok (.invokestatic 94, 3) := by decide +kernel
theorem dX5_leastWanting_26 : decode cX5_leastWanting 26 = .ok (.if_icmp .ge 5, 3) := by decide +kernel
theorem dX5_leastWanting_29 : decode cX5_leastWanting 29 = .ok (.iload_n 1, 1) := by decide +kernel
theorem dX5_leastWanting_30 : decode cX5_leastWanting 30 = .ok (.ireturn, 1) := by decide +kernel
theorem dX5_leastWanting_31 : decode cX5_leastWanting 31 = .ok (.iinc 1 1, 3) := by decide +kernel
theorem dX5_leastWanting_34 : decode cX5_leastWanting 34 = .ok (.goto (-32), 3) := by decide +kernel
theorem dX5_leastWanting_37 : decode cX5_leastWanting 37 = .ok (.iconst 0, 1) := by decide +kernel
theorem dX5_leastWanting_38 : decode cX5_leastWanting 38 = .ok (.ireturn, 1) := by decide +kernel
theorem dX5_barsFor_0 : decode cX5_barsFor 0 = .ok (.iconst 0, 1) := by decide +kernel
theorem dX5_barsFor_1 : decode cX5_barsFor 1 = .ok (.istore_n 2, 1) := by decide +kernel
theorem dX5_barsFor_2 : decode cX5_barsFor 2 = .ok (.iconst 0, 1) := by decide +kernel
theorem dX5_barsFor_3 : decode cX5_barsFor 3 = .ok (.istore_n 3, 1) := by decide +kernel
theorem dX5_barsFor_4 : decode cX5_barsFor 4 = .ok (.iload_n 3, 1) := by decide +kernel
theorem dX5_barsFor_5 : decode cX5_barsFor 5 = .ok (.aload_n 0, 1) := by decide +kernel
theorem dX5_barsFor_6 : decode cX5_barsFor 6 = .ok (.getfield 47, 3) := by decide +kernel
theorem dX5_barsFor_9 : decode cX5_barsFor 9 = .ok (.if_icmp .ge 29, 3) := by decide +kernel
theorem dX5_barsFor_12 : decode cX5_barsFor 12 = .ok (.iload_n 2, 1) := by decide +kernel
theorem dX5_barsFor_13 : decode cX5_barsFor 13 = .ok (.bipush 8, 2) := by decide +kernel
theorem dX5_barsFor_15 : decode cX5_barsFor 15 = .ok (.if_icmp .ge 23, 3) := by decide +kernel
theorem dX5_barsFor_18 : decode cX5_barsFor 18 = .ok (.aload_n 0, 1) := by decide +kernel
theorem dX5_barsFor_19 : decode cX5_barsFor 19 = .ok (.getfield 21, 3) := by decide +kernel
theorem dX5_barsFor_22 : decode cX5_barsFor 22 = .ok (.iload_n 3, 1) := by decide +kernel
theorem dX5_barsFor_23 : decode cX5_barsFor 23 = .ok (.iaload, 1) := by decide +kernel
theorem dX5_barsFor_24 : decode cX5_barsFor 24 = .ok (.iload_n 1, 1) := by decide +kernel
theorem dX5_barsFor_25 : decode cX5_barsFor 25 = .ok (.iand, 1) := by decide +kernel
theorem dX5_barsFor_26 : decode cX5_barsFor 26 = .ok (.ifCond .eq 6, 3) := by decide +kernel
theorem dX5_barsFor_29 : decode cX5_barsFor 29 = .ok (.iinc 2 1, 3) := by decide +kernel
theorem dX5_barsFor_32 : decode cX5_barsFor 32 = .ok (.iinc 3 1, 3) := by decide +kernel
theorem dX5_barsFor_35 : decode cX5_barsFor 35 = .ok (.goto (-31), 3) := by decide +kernel
theorem dX5_barsFor_38 : decode cX5_barsFor 38 = .ok (.iload_n 2, 1) := by decide +kernel
theorem dX5_barsFor_39 : decode cX5_barsFor 39 = .ok (.ireturn, 1) := by decide +kernel
theorem dX6_init_0 : decode cX6_init 0 = .ok (.aload_n 0, 1) := by decide +kernel
theorem dX6_init_1 : decode cX6_init 1 = .ok (.invokespecial 3, 3) := by decide +kernel
theorem dX6_init_4 : decode cX6_init 4 = .ok (.aload_n 0, 1) := by decide +kernel
theorem dX6_init_5 : decode cX6_init 5 = .ok (.bipush 12, 2) := by decide +kernel
theorem dX6_init_7 : decode cX6_init 7 = .ok (.newarray .int, 2) := by decide +kernel
theorem dX6_init_9 : decode cX6_init 9 = .ok (.putfield 9, 3) := by decide +kernel
theorem dX6_init_12 : decode cX6_init 12 = .ok (.aload_n 0, 1) := by decide +kernel
theorem dX6_init_13 : decode cX6_init 13 = .ok (.bipush 12, 2) := by decide +kernel
theorem dX6_init_15 : decode cX6_init 15 = .ok (.newarray .long, 2) := by decide +kernel
theorem dX6_init_17 : decode cX6_init 17 = .ok (.putfield 15, 3) := by decide +kernel
theorem dX6_init_20 : decode cX6_init 20 = .ok (.return_, 1) := by decide +kernel
theorem dX6_divide_0 : decode cX6_divide 0 = .ok (.aload_n 0, 1) := by decide +kernel
theorem dX6_divide_1 : decode cX6_divide 1 = .ok (.getfield 9, 3) := by decide +kernel
theorem dX6_divide_4 : decode cX6_divide 4 = .ok (.iconst 0, 1) := by decide +kernel
theorem dX6_divide_5 : decode cX6_divide 5 = .ok (.invokestatic 19, 3) := by decide +kernel
theorem dX6_divide_8 : decode cX6_divide 8 = .ok (.aload_n 2, 1) := by decide +kernel
theorem dX6_divide_9 : decode cX6_divide 9 = .ok (.arraylength, 1) := by decide +kernel
theorem dX6_divide_10 : decode cX6_divide 10 = .ok (.aload_n 0, 1) := by decide +kernel
theorem dX6_divide_11 : decode cX6_divide 11 = .ok (.getfield 9, 3) := by decide +kernel
theorem dX6_divide_14 : decode cX6_divide 14 = .ok (.arraylength, 1) := by decide +kernel
theorem dX6_divide_15 : decode cX6_divide 15 = .ok (.invokestatic 25, 3) := by decide +kernel
theorem dX6_divide_18 : decode cX6_divide 18 = .ok (.istore_n 3, 1) := by decide +kernel
theorem dX6_divide_19 : decode cX6_divide 19 = .ok (.lconst 0, 1) := by decide +kernel
theorem dX6_divide_20 : decode cX6_divide 20 = .ok (.lstore 4, 2) := by decide +kernel
theorem dX6_divide_22 : decode cX6_divide 22 = .ok (.iconst 0, 1) := by decide +kernel
theorem dX6_divide_23 : decode cX6_divide 23 = .ok (.istore 6, 2) := by decide +kernel
theorem dX6_divide_25 : decode cX6_divide 25 = .ok (.iload 6, 2) := by decide +kernel
theorem dX6_divide_27 : decode cX6_divide 27 = .ok (.iload_n 3, 1) := by decide +kernel
theorem dX6_divide_28 : decode cX6_divide 28 = .ok (.if_icmp .ge 19, 3) := by decide +kernel
theorem dX6_divide_31 : decode cX6_divide 31 = .ok (.lload 4, 2) := by decide +kernel
theorem dX6_divide_33 : decode cX6_divide 33 = .ok (.aload_n 2, 1) := by decide +kernel
theorem dX6_divide_34 : decode cX6_divide 34 = .ok (.iload 6, 2) := by decide +kernel
theorem dX6_divide_36 : decode cX6_divide 36 = .ok (.iaload, 1) := by decide +kernel
theorem dX6_divide_37 : decode cX6_divide 37 = .ok (.i2l, 1) := by decide +kernel
theorem dX6_divide_38 : decode cX6_divide 38 = .ok (.ladd, 1) := by decide +kernel
theorem dX6_divide_39 : decode cX6_divide 39 = .ok (.lstore 4, 2) := by decide +kernel
theorem dX6_divide_41 : decode cX6_divide 41 = .ok (.iinc 6 1, 3) := by decide +kernel
theorem dX6_divide_44 : decode cX6_divide 44 = .ok (.goto (-19), 3) := by decide +kernel
theorem dX6_divide_47 : decode cX6_divide 47 = .ok (.lload 4, 2) := by decide +kernel
theorem dX6_divide_49 : decode cX6_divide 49 = .ok (.lconst 0, 1) := by decide +kernel
theorem dX6_divide_50 : decode cX6_divide 50 = .ok (.lcmp, 1) := by decide +kernel
theorem dX6_divide_51 : decode cX6_divide 51 = .ok (.ifCond .gt 5, 3) := by decide +kernel
theorem dX6_divide_54 : decode cX6_divide 54 = .ok (.iconst 0, 1) := by decide +kernel
theorem dX6_divide_55 : decode cX6_divide 55 = .ok (.ireturn, 1) := by decide +kernel
theorem dX6_divide_56 : decode cX6_divide 56 = .ok (.iload_n 1, 1) := by decide +kernel
theorem dX6_divide_57 : decode cX6_divide 57 = .ok (.istore 6, 2) := by decide +kernel
theorem dX6_divide_59 : decode cX6_divide 59 = .ok (.iconst 0, 1) := by decide +kernel
theorem dX6_divide_60 : decode cX6_divide 60 = .ok (.istore 7, 2) := by decide +kernel
theorem dX6_divide_62 : decode cX6_divide 62 = .ok (.iload 7, 2) := by decide +kernel
theorem dX6_divide_64 : decode cX6_divide 64 = .ok (.iload_n 3, 1) := by decide +kernel
theorem dX6_divide_65 : decode cX6_divide 65 = .ok (.if_icmp .ge 56, 3) := by decide +kernel
theorem dX6_divide_68 : decode cX6_divide 68 = .ok (.iload_n 1, 1) := by decide +kernel
theorem dX6_divide_69 : decode cX6_divide 69 = .ok (.i2l, 1) := by decide +kernel
theorem dX6_divide_70 : decode cX6_divide 70 = .ok (.aload_n 2, 1) := by decide +kernel
theorem dX6_divide_71 : decode cX6_divide 71 = .ok (.iload 7, 2) := by decide +kernel
theorem dX6_divide_73 : decode cX6_divide 73 = .ok (.iaload, 1) := by decide +kernel
theorem dX6_divide_74 : decode cX6_divide 74 = .ok (.i2l, 1) := by decide +kernel
theorem dX6_divide_75 : decode cX6_divide 75 = .ok (.lmul, 1) := by decide +kernel
theorem dX6_divide_76 : decode cX6_divide 76 = .ok (.lstore 8, 2) := by decide +kernel
theorem dX6_divide_78 : decode cX6_divide 78 = .ok (.aload_n 0, 1) := by decide +kernel
theorem dX6_divide_79 : decode cX6_divide 79 = .ok (.getfield 9, 3) := by decide +kernel
theorem dX6_divide_82 : decode cX6_divide 82 = .ok (.iload 7, 2) := by decide +kernel
theorem dX6_divide_84 : decode cX6_divide 84 = .ok (.lload 8, 2) := by decide +kernel
theorem dX6_divide_86 : decode cX6_divide 86 = .ok (.lload 4, 2) := by decide +kernel
theorem dX6_divide_88 : decode cX6_divide 88 = .ok (.ldiv, 1) := by decide +kernel
theorem dX6_divide_89 : decode cX6_divide 89 = .ok (.l2i, 1) := by decide +kernel
theorem dX6_divide_90 : decode cX6_divide 90 = .ok (.iastore, 1) := by decide +kernel
theorem dX6_divide_91 : decode cX6_divide 91 = .ok (.aload_n 0, 1) := by decide +kernel
theorem dX6_divide_92 : decode cX6_divide 92 = .ok (.getfield 15, 3) := by decide +kernel
theorem dX6_divide_95 : decode cX6_divide 95 = .ok (.iload 7, 2) := by decide +kernel
theorem dX6_divide_97 : decode cX6_divide 97 = .ok (.lload 8, 2) := by decide +kernel
theorem dX6_divide_99 : decode cX6_divide 99 = .ok (.lload 4, 2) := by decide +kernel
theorem dX6_divide_101 : decode cX6_divide 101 = .ok (.lrem, 1) := by decide +kernel
theorem dX6_divide_102 : decode cX6_divide 102 = .ok (.lastore, 1) := by decide +kernel
theorem dX6_divide_103 : decode cX6_divide 103 = .ok (.iload 6, 2) := by decide +kernel
theorem dX6_divide_105 : decode cX6_divide 105 = .ok (.aload_n 0, 1) := by decide +kernel
theorem dX6_divide_106 : decode cX6_divide 106 = .ok (.getfield 9, 3) := by decide +kernel
theorem dX6_divide_109 : decode cX6_divide 109 = .ok (.iload 7, 2) := by decide +kernel
theorem dX6_divide_111 : decode cX6_divide 111 = .ok (.iaload, 1) := by decide +kernel
theorem dX6_divide_112 : decode cX6_divide 112 = .ok (.isub, 1) := by decide +kernel
theorem dX6_divide_113 : decode cX6_divide 113 = .ok (.istore 6, 2) := by decide +kernel
theorem dX6_divide_115 : decode cX6_divide 115 = .ok (.iinc 7 1, 3) := by decide +kernel
theorem dX6_divide_118 : decode cX6_divide 118 = .ok (.goto (-56), 3) := by decide +kernel
theorem dX6_divide_121 : decode cX6_divide 121 = .ok (.iconst 0, 1) := by decide +kernel
theorem dX6_divide_122 : decode cX6_divide 122 = .ok (.istore 7, 2) := by decide +kernel
theorem dX6_divide_124 : decode cX6_divide 124 = .ok (.iload 7, 2) := by decide +kernel
theorem dX6_divide_126 : decode cX6_divide 126 = .ok (.iload 6, 2) := by decide +kernel
theorem dX6_divide_128 : decode cX6_divide 128 = .ok (.if_icmp .ge 43, 3) := by decide +kernel
theorem dX6_divide_131 : decode cX6_divide 131 = .ok (.iload 7, 2) := by decide +kernel
theorem dX6_divide_133 : decode cX6_divide 133 = .ok (.iload_n 3, 1) := by decide +kernel
theorem dX6_divide_134 : decode cX6_divide 134 = .ok (.if_icmp .ge 37, 3) := by decide +kernel
theorem dX6_divide_137 : decode cX6_divide 137 = .ok (.aload_n 0, 1) := by decide +kernel
theorem dX6_divide_138 : decode cX6_divide 138 = .ok (.iload_n 3, 1) := by decide +kernel
theorem dX6_divide_139 : decode cX6_divide 139 = .ok (.invokevirtual 31, 3) := by decide +kernel
theorem dX6_divide_142 : decode cX6_divide 142 = .ok (.istore 8, 2) := by decide +kernel
theorem dX6_divide_144 : decode cX6_divide 144 = .ok (.aload_n 0, 1) := by decide +kernel
theorem dX6_divide_145 : decode cX6_divide 145 = .ok (.getfield 9, 3) := by decide +kernel
theorem dX6_divide_148 : decode cX6_divide 148 = .ok (.iload 8, 2) := by decide +kernel
theorem dX6_divide_150 : decode cX6_divide 150 = .ok (.dup2, 1) := by decide +kernel
theorem dX6_divide_151 : decode cX6_divide 151 = .ok (.iaload, 1) := by decide +kernel
theorem dX6_divide_152 : decode cX6_divide 152 = .ok (.iconst 1, 1) := by decide +kernel
theorem dX6_divide_153 : decode cX6_divide 153 = .ok (.iadd, 1) := by decide +kernel
theorem dX6_divide_154 : decode cX6_divide 154 = .ok (.iastore, 1) := by decide +kernel
theorem dX6_divide_155 : decode cX6_divide 155 = .ok (.aload_n 0, 1) := by decide +kernel
theorem dX6_divide_156 : decode cX6_divide 156 = .ok (.getfield 15, 3) := by decide +kernel
theorem dX6_divide_159 : decode cX6_divide 159 = .ok (.iload 8, 2) := by decide +kernel
theorem dX6_divide_161 : decode cX6_divide 161 = .ok (.ldc2_w 35, 3) := by decide +kernel
theorem dX6_divide_164 : decode cX6_divide 164 = .ok (.lastore, 1) := by decide +kernel
theorem dX6_divide_165 : decode cX6_divide 165 = .ok (.iinc 7 1, 3) := by decide +kernel
theorem dX6_divide_168 : decode cX6_divide 168 = .ok (.goto (-44), 3) := by decide +kernel
theorem dX6_divide_171 : decode cX6_divide 171 = .ok (.iconst 1, 1) := by decide +kernel
theorem dX6_divide_172 : decode cX6_divide 172 = .ok (.ireturn, 1) := by decide +kernel
theorem dX6_greatestRest_0 : decode cX6_greatestRest 0 = .ok (.iconst 0, 1) := by decide +kernel
theorem dX6_greatestRest_1 : decode cX6_greatestRest 1 = .ok (.istore_n 2, 1) := by decide +kernel
theorem dX6_greatestRest_2 : decode cX6_greatestRest 2 = .ok (.iconst 1, 1) := by decide +kernel
theorem dX6_greatestRest_3 : decode cX6_greatestRest 3 = .ok (.istore_n 3, 1) := by decide +kernel
theorem dX6_greatestRest_4 : decode cX6_greatestRest 4 = .ok (.iload_n 3, 1) := by decide +kernel
theorem dX6_greatestRest_5 : decode cX6_greatestRest 5 = .ok (.iload_n 1, 1) := by decide +kernel
theorem dX6_greatestRest_6 : decode cX6_greatestRest 6 = .ok (.if_icmp .ge 27, 3) := by decide +kernel
theorem dX6_greatestRest_9 : decode cX6_greatestRest 9 = .ok (.aload_n 0, 1) := by decide +kernel
theorem dX6_greatestRest_10 : decode cX6_greatestRest 10 = .ok (.getfield 15, 3) := by decide +kernel
theorem dX6_greatestRest_13 : decode cX6_greatestRest 13 = .ok (.iload_n 3, 1) := by decide +kernel
theorem dX6_greatestRest_14 : decode cX6_greatestRest 14 = .ok (.laload, 1) := by decide +kernel
theorem dX6_greatestRest_15 : decode cX6_greatestRest 15 = .ok (.aload_n 0, 1) := by decide +kernel
theorem dX6_greatestRest_16 : decode cX6_greatestRest 16 = .ok (.getfield 15, 3) := by decide +kernel
theorem dX6_greatestRest_19 : decode cX6_greatestRest 19 = .ok (.iload_n 2, 1) := by decide +kernel
theorem dX6_greatestRest_20 : decode cX6_greatestRest 20 = .ok (.laload, 1) := by decide +kernel
theorem dX6_greatestRest_21 : decode cX6_greatestRest 21 = .ok (.lcmp, 1) := by decide +kernel
theorem dX6_greatestRest_22 : decode cX6_greatestRest 22 = .ok (.ifCond .le 5, 3) := by decide +kernel
theorem dX6_greatestRest_25 : decode cX6_greatestRest 25 = .ok (.iload_n 3, 1) := by decide +kernel
theorem dX6_greatestRest_26 : decode cX6_greatestRest 26 = .ok (.istore_n 2, 1) := by decide +kernel
theorem dX6_greatestRest_27 : decode cX6_greatestRest 27 = .ok (.iinc 3 1, 3) := by decide +kernel
theorem dX6_greatestRest_30 : decode cX6_greatestRest 30 = .ok (.goto (-26), 3) := by decide +kernel
theorem dX6_greatestRest_33 : decode cX6_greatestRest 33 = .ok (.iload_n 2, 1) := by decide +kernel
theorem dX6_greatestRest_34 : decode cX6_greatestRest 34 = .ok (.ireturn, 1) := by decide +kernel
theorem dX6_giveAllToFirst_0 : decode cX6_giveAllToFirst 0 = .ok (.aload_n 0, 1) := by decide +kernel
theorem dX6_giveAllToFirst_1 : decode cX6_giveAllToFirst 1 = .ok (.getfield 9, 3) := by decide +kernel
theorem dX6_giveAllToFirst_4 : decode cX6_giveAllToFirst 4 = .ok (.iconst 0, 1) := by decide +kernel
theorem dX6_giveAllToFirst_5 : decode cX6_giveAllToFirst 5 = .ok (.invokestatic 19, 3) := by decide +kernel
theorem dX6_giveAllToFirst_8 : decode cX6_giveAllToFirst 8 = .ok (.aload_n 0, 1) := by decide +kernel
theorem dX6_giveAllToFirst_9 : decode cX6_giveAllToFirst 9 = .ok (.getfield 9, 3) := by decide +kernel
theorem dX6_giveAllToFirst_12 : decode cX6_giveAllToFirst 12 = .ok (.iconst 0, 1) := by decide +kernel
theorem dX6_giveAllToFirst_13 : decode cX6_giveAllToFirst 13 = .ok (.iload_n 1, 1) := by decide +kernel
theorem dX6_giveAllToFirst_14 : decode cX6_giveAllToFirst 14 = .ok (.iastore, 1) := by decide +kernel
theorem dX6_giveAllToFirst_15 : decode cX6_giveAllToFirst 15 = .ok (.return_, 1) := by decide +kernel
theorem dX6_carry_0 : decode cX6_carry 0 = .ok (.aload_n 0, 1) := by decide +kernel
theorem dX6_carry_1 : decode cX6_carry 1 = .ok (.iload_n 1, 1) := by decide +kernel
theorem dX6_carry_2 : decode cX6_carry 2 = .ok (.aload_n 2, 1) := by decide +kernel
theorem dX6_carry_3 : decode cX6_carry 3 = .ok (.invokevirtual 37, 3) := by decide +kernel
theorem dX6_carry_6 : decode cX6_carry 6 = .ok (.pop, 1) := by decide +kernel
theorem dX6_carry_7 : decode cX6_carry 7 = .ok (.iconst 0, 1) := by decide +kernel
theorem dX6_carry_8 : decode cX6_carry 8 = .ok (.istore 4, 2) := by decide +kernel
theorem dX6_carry_10 : decode cX6_carry 10 = .ok (.iload 4, 2) := by decide +kernel
theorem dX6_carry_12 : decode cX6_carry 12 = .ok (.aload_n 2, 1) := by decide +kernel
theorem dX6_carry_13 : decode cX6_carry 13 = .ok (.arraylength, 1) := by decide +kernel
theorem dX6_carry_14 : decode cX6_carry 14 = .ok (.if_icmp .ge 54, 3) := by decide +kernel
theorem dX6_carry_17 : decode cX6_carry 17 = .ok (.iload 4, 2) := by decide +kernel
theorem dX6_carry_19 : decode cX6_carry 19 = .ok (.aload_n 3, 1) := by decide +kernel
theorem dX6_carry_20 : decode cX6_carry 20 = .ok (.arraylength, 1) := by decide +kernel
theorem dX6_carry_21 : decode cX6_carry 21 = .ok (.if_icmp .ge 47, 3) := by decide +kernel
theorem dX6_carry_24 : decode cX6_carry 24 = .ok (.iload 4, 2) := by decide +kernel
theorem dX6_carry_26 : decode cX6_carry 26 = .ok (.aload_n 0, 1) := by decide +kernel
theorem dX6_carry_27 : decode cX6_carry 27 = .ok (.getfield 9, 3) := by decide +kernel
theorem dX6_carry_30 : decode cX6_carry 30 = .ok (.arraylength, 1) := by decide +kernel
theorem dX6_carry_31 : decode cX6_carry 31 = .ok (.if_icmp .ge 37, 3) := by decide +kernel
theorem dX6_carry_34 : decode cX6_carry 34 = .ok (.aload_n 2, 1) := by decide +kernel
theorem dX6_carry_35 : decode cX6_carry 35 = .ok (.iload 4, 2) := by decide +kernel
theorem dX6_carry_37 : decode cX6_carry 37 = .ok (.dup2, 1) := by decide +kernel
theorem dX6_carry_38 : decode cX6_carry 38 = .ok (.iaload, 1) := by decide +kernel
theorem dX6_carry_39 : decode cX6_carry 39 = .ok (.aload_n 0, 1) := by decide +kernel
theorem dX6_carry_40 : decode cX6_carry 40 = .ok (.getfield 9, 3) := by decide +kernel
theorem dX6_carry_43 : decode cX6_carry 43 = .ok (.iload 4, 2) := by decide +kernel
theorem dX6_carry_45 : decode cX6_carry 45 = .ok (.iaload, 1) := by decide +kernel
theorem dX6_carry_46 : decode cX6_carry 46 = .ok (.isub, 1) := by decide +kernel
theorem dX6_carry_47 : decode cX6_carry 47 = .ok (.iastore, 1) := by decide +kernel
theorem dX6_carry_48 : decode cX6_carry 48 = .ok (.aload_n 3, 1) := by decide +kernel
theorem dX6_carry_49 : decode cX6_carry 49 = .ok (.iload 4, 2) := by decide +kernel
theorem dX6_carry_51 : decode cX6_carry 51 = .ok (.dup2, 1) := by decide +kernel
theorem dX6_carry_52 : decode cX6_carry 52 = .ok (.iaload, 1) := by decide +kernel
theorem dX6_carry_53 : decode cX6_carry 53 = .ok (.aload_n 0, 1) := by decide +kernel
theorem dX6_carry_54 : decode cX6_carry 54 = .ok (.getfield 9, 3) := by decide +kernel
theorem dX6_carry_57 : decode cX6_carry 57 = .ok (.iload 4, 2) := by decide +kernel
theorem dX6_carry_59 : decode cX6_carry 59 = .ok (.iaload, 1) := by decide +kernel
theorem dX6_carry_60 : decode cX6_carry 60 = .ok (.iadd, 1) := by decide +kernel
theorem dX6_carry_61 : decode cX6_carry 61 = .ok (.iastore, 1) := by decide +kernel
theorem dX6_carry_62 : decode cX6_carry 62 = .ok (.iinc 4 1, 3) := by decide +kernel
theorem dX6_carry_65 : decode cX6_carry 65 = .ok (.goto (-55), 3) := by decide +kernel
theorem dX6_carry_68 : decode cX6_carry 68 = .ok (.return_, 1) := by decide +kernel
theorem dX7_init_0 : decode cX7_init 0 = .ok (.aload_n 0, 1) := by decide +kernel
theorem dX7_init_1 : decode cX7_init 1 = .ok (.invokespecial 3, 3) := by decide +kernel
theorem dX7_init_4 : decode cX7_init 4 = .ok (.aload_n 0, 1) := by decide +kernel
theorem dX7_init_5 : decode cX7_init 5 = .ok (.bipush 8, 2) := by decide +kernel
theorem dX7_init_7 : decode cX7_init 7 = .ok (.newarray .int, 2) := by decide +kernel
theorem dX7_init_9 : decode cX7_init 9 = .ok (.putfield 9, 3) := by decide +kernel
theorem dX7_init_12 : decode cX7_init 12 = .ok (.aload_n 0, 1) := by decide +kernel
theorem dX7_init_13 : decode cX7_init 13 = .ok (.iload_n 1, 1) := by decide +kernel
theorem dX7_init_14 : decode cX7_init 14 = .ok (.putfield 15, 3) := by decide +kernel
theorem dX7_init_17 : decode cX7_init 17 = .ok (.aload_n 0, 1) := by decide +kernel
theorem dX7_init_18 : decode cX7_init 18 = .ok (.iload_n 2, 1) := by decide +kernel
theorem dX7_init_19 : decode cX7_init 19 = .ok (.putfield 19, 3) := by decide +kernel
theorem dX7_init_22 : decode cX7_init 22 = .ok (.aload_n 0, 1) := by decide +kernel
theorem dX7_init_23 : decode cX7_init 23 = .ok (.iload_n 3, 1) := by decide +kernel
theorem dX7_init_24 : decode cX7_init 24 = .ok (.putfield 22, 3) := by decide +kernel
theorem dX7_init_27 : decode cX7_init 27 = .ok (.return_, 1) := by decide +kernel
theorem dX8_init_0 : decode cX8_init 0 = .ok (.aload_n 0, 1) := by decide +kernel
theorem dX8_init_1 : decode cX8_init 1 = .ok (.invokespecial 3, 3) := by decide +kernel
theorem dX8_init_4 : decode cX8_init 4 = .ok (.aload_n 0, 1) := by decide +kernel
theorem dX8_init_5 : decode cX8_init 5 = .ok (.bipush 100, 2) := by decide +kernel
theorem dX8_init_7 : decode cX8_init 7 = .ok (.newarray .int, 2) := by decide +kernel
theorem dX8_init_9 : decode cX8_init 9 = .ok (.putfield 9, 3) := by decide +kernel
theorem dX8_init_12 : decode cX8_init 12 = .ok (.aload_n 0, 1) := by decide +kernel
theorem dX8_init_13 : decode cX8_init 13 = .ok (.bipush 100, 2) := by decide +kernel
theorem dX8_init_15 : decode cX8_init 15 = .ok (.newarray .int, 2) := by decide +kernel
theorem dX8_init_17 : decode cX8_init 17 = .ok (.putfield 15, 3) := by decide +kernel
theorem dX8_init_20 : decode cX8_init 20 = .ok (.aload_n 0, 1) := by decide +kernel
theorem dX8_init_21 : decode cX8_init 21 = .ok (.bipush 100, 2) := by decide +kernel
theorem dX8_init_23 : decode cX8_init 23 = .ok (.newarray .int, 2) := by decide +kernel
theorem dX8_init_25 : decode cX8_init 25 = .ok (.putfield 18, 3) := by decide +kernel
theorem dX8_init_28 : decode cX8_init 28 = .ok (.aload_n 0, 1) := by decide +kernel
theorem dX8_init_29 : decode cX8_init 29 = .ok (.bipush 100, 2) := by decide +kernel
theorem dX8_init_31 : decode cX8_init 31 = .ok (.newarray .int, 2) := by decide +kernel
theorem dX8_init_33 : decode cX8_init 33 = .ok (.putfield 21, 3) := by decide +kernel
theorem dX8_init_36 : decode cX8_init 36 = .ok (.return_, 1) := by decide +kernel
theorem dX8_tell_0 : decode cX8_tell 0 = .ok (.aload_n 0, 1) := by decide +kernel
theorem dX8_tell_1 : decode cX8_tell 1 = .ok (.getfield 24, 3) := by decide +kernel
theorem dX8_tell_4 : decode cX8_tell 4 = .ok (.bipush 100, 2) := by decide +kernel
theorem dX8_tell_6 : decode cX8_tell 6 = .ok (.if_icmp .lt 5, 3) := by decide +kernel
theorem dX8_tell_9 : decode cX8_tell 9 = .ok (.iconst 0, 1) := by decide +kernel
theorem dX8_tell_10 : decode cX8_tell 10 = .ok (.ireturn, 1) := by decide +kernel
theorem dX8_tell_11 : decode cX8_tell 11 = .ok (.aload_n 0, 1) := by decide +kernel
theorem dX8_tell_12 : decode cX8_tell 12 = .ok (.getfield 9, 3) := by decide +kernel
theorem dX8_tell_15 : decode cX8_tell 15 = .ok (.aload_n 0, 1) := by decide +kernel
theorem dX8_tell_16 : decode cX8_tell 16 = .ok (.getfield 24, 3) := by decide +kernel
theorem dX8_tell_19 : decode cX8_tell 19 = .ok (.iload_n 1, 1) := by decide +kernel
theorem dX8_tell_20 : decode cX8_tell 20 = .ok (.iastore, 1) := by decide +kernel
theorem dX8_tell_21 : decode cX8_tell 21 = .ok (.aload_n 0, 1) := by decide +kernel
theorem dX8_tell_22 : decode cX8_tell 22 = .ok (.getfield 15, 3) := by decide +kernel
theorem dX8_tell_25 : decode cX8_tell 25 = .ok (.aload_n 0, 1) := by decide +kernel
theorem dX8_tell_26 : decode cX8_tell 26 = .ok (.getfield 24, 3) := by decide +kernel
theorem dX8_tell_29 : decode cX8_tell 29 = .ok (.iload_n 2, 1) := by decide +kernel
theorem dX8_tell_30 : decode cX8_tell 30 = .ok (.iastore, 1) := by decide +kernel
theorem dX8_tell_31 : decode cX8_tell 31 = .ok (.aload_n 0, 1) := by decide +kernel
theorem dX8_tell_32 : decode cX8_tell 32 = .ok (.getfield 18, 3) := by decide +kernel
theorem dX8_tell_35 : decode cX8_tell 35 = .ok (.aload_n 0, 1) := by decide +kernel
theorem dX8_tell_36 : decode cX8_tell 36 = .ok (.getfield 24, 3) := by decide +kernel
theorem dX8_tell_39 : decode cX8_tell 39 = .ok (.iload_n 3, 1) := by decide +kernel
theorem dX8_tell_40 : decode cX8_tell 40 = .ok (.iastore, 1) := by decide +kernel
theorem dX8_tell_41 : decode cX8_tell 41 = .ok (.aload_n 0, 1) := by decide +kernel
theorem dX8_tell_42 : decode cX8_tell 42 = .ok (.getfield 21, 3) := by decide +kernel
theorem dX8_tell_45 : decode cX8_tell 45 = .ok (.aload_n 0, 1) := by decide +kernel
theorem dX8_tell_46 : decode cX8_tell 46 = .ok (.getfield 24, 3) := by decide +kernel
theorem dX8_tell_49 : decode cX8_tell 49 = .ok (.iload 4, 2) := by decide +kernel
theorem dX8_tell_51 : decode cX8_tell 51 = .ok (.iastore, 1) := by decide +kernel
theorem dX8_tell_52 : decode cX8_tell 52 = .ok (.aload_n 0, 1) := by decide +kernel
theorem dX8_tell_53 : decode cX8_tell 53 = .ok (.dup, 1) := by decide +kernel
theorem dX8_tell_54 : decode cX8_tell 54 = .ok (.getfield 24, 3) := by decide +kernel
theorem dX8_tell_57 : decode cX8_tell 57 = .ok (.iconst 1, 1) := by decide +kernel
theorem dX8_tell_58 : decode cX8_tell 58 = .ok (.iadd, 1) := by decide +kernel
theorem dX8_tell_59 : decode cX8_tell 59 = .ok (.putfield 24, 3) := by decide +kernel
theorem dX8_tell_62 : decode cX8_tell 62 = .ok (.iconst 1, 1) := by decide +kernel
theorem dX8_tell_63 : decode cX8_tell 63 = .ok (.ireturn, 1) := by decide +kernel
theorem dX8_inForce_0 : decode cX8_inForce 0 = .ok (.iconst (-1), 1) := by decide +kernel
theorem dX8_inForce_1 : decode cX8_inForce 1 = .ok (.istore 4, 2) := by decide +kernel
theorem dX8_inForce_3 : decode cX8_inForce 3 = .ok (.iconst 0, 1) := by decide +kernel
theorem dX8_inForce_4 : decode cX8_inForce 4 = .ok (.istore 5, 2) := by decide +kernel
theorem dX8_inForce_6 : decode cX8_inForce 6 = .ok (.iconst 0, 1) := by decide +kernel
theorem dX8_inForce_7 : decode cX8_inForce 7 = .ok (.istore 6, 2) := by decide +kernel
theorem dX8_inForce_9 : decode cX8_inForce 9 = .ok (.iload 6, 2) := by decide +kernel
theorem dX8_inForce_11 : decode cX8_inForce 11 = .ok (.aload_n 0, 1) := by decide +kernel
theorem dX8_inForce_12 : decode cX8_inForce 12 = .ok (.getfield 24, 3) := by decide +kernel
theorem dX8_inForce_15 : decode cX8_inForce 15 = .ok (.if_icmp .ge 91, 3) := by decide +kernel
theorem dX8_inForce_18 : decode cX8_inForce 18 = .ok (.iload 6, 2) := by decide +kernel
theorem dX8_inForce_20 : decode cX8_inForce 20 = .ok (.bipush 100, 2) := by decide +kernel
theorem dX8_inForce_22 : decode cX8_inForce 22 = .ok (.if_icmp .ge 84, 3) := by decide +kernel
theorem dX8_inForce_25 : decode cX8_inForce 25 = .ok (.aload_n 0, 1) := by decide +kernel
theorem dX8_inForce_26 : decode cX8_inForce 26 = .ok (.getfield 9, 3) := by decide +kernel
theorem dX8_inForce_29 : decode cX8_inForce 29 = .ok (.iload 6, 2) := by decide +kernel
theorem dX8_inForce_31 : decode cX8_inForce 31 = .ok (.iaload, 1) := by decide +kernel
theorem dX8_inForce_32 : decode cX8_inForce 32 = .ok (.iload_n 1, 1) := by decide +kernel
theorem dX8_inForce_33 : decode cX8_inForce 33 = .ok (.if_icmp .ne 18, 3) := by decide +kernel
theorem dX8_inForce_36 : decode cX8_inForce 36 = .ok (.aload_n 0, 1) := by decide +kernel
theorem dX8_inForce_37 : decode cX8_inForce 37 = .ok (.getfield 15, 3) := by decide +kernel
theorem dX8_inForce_40 : decode cX8_inForce 40 = .ok (.iload 6, 2) := by decide +kernel
theorem dX8_inForce_42 : decode cX8_inForce 42 = .ok (.iaload, 1) := by decide +kernel
theorem dX8_inForce_43 : decode cX8_inForce 43 = .ok (.iload_n 2, 1) := by decide +kernel
theorem dX8_inForce_44 : decode cX8_inForce 44 = .ok (.if_icmp .ne 7, 3) := by decide +kernel
theorem dX8_inForce_47 : decode cX8_inForce 47 = .ok (.iconst 1, 1) := by decide +kernel
theorem dX8_inForce_48 : decode cX8_inForce 48 = .ok (.goto 4, 3) := by decide +kernel
theorem dX8_inForce_51 : decode cX8_inForce 51 = .ok (.iconst 0, 1) := by decide +kernel
theorem dX8_inForce_52 : decode cX8_inForce 52 = .ok (.istore 7, 2) := by decide +kernel
theorem dX8_inForce_54 : decode cX8_inForce 54 = .ok (.iload 7, 2) := by decide +kernel
theorem dX8_inForce_56 : decode cX8_inForce 56 = .ok (.ifCond .eq 44, 3) := by decide +kernel
theorem dX8_inForce_59 : decode cX8_inForce 59 = .ok (.aload_n 0, 1) := by decide +kernel
theorem dX8_inForce_60 : decode cX8_inForce 60 = .ok (.getfield 21, 3) := by decide +kernel
theorem dX8_inForce_63 : decode cX8_inForce 63 = .ok (.iload 6, 2) := by decide +kernel
theorem dX8_inForce_65 : decode cX8_inForce 65 = .ok (.iaload, 1) := by decide +kernel
theorem dX8_inForce_66 : decode cX8_inForce 66 = .ok (.iload_n 3, 1) := by decide +kernel
theorem dX8_inForce_67 : decode cX8_inForce 67 = .ok (.if_icmp .gt 33, 3) := by decide +kernel
theorem dX8_inForce_70 : decode cX8_inForce 70 = .ok (.aload_n 0, 1) := by decide +kernel
theorem dX8_inForce_71 : decode cX8_inForce 71 = .ok (.getfield 21, 3) := by decide +kernel
theorem dX8_inForce_74 : decode cX8_inForce 74 = .ok (.iload 6, 2) := by decide +kernel
theorem dX8_inForce_76 : decode cX8_inForce 76 = .ok (.iaload, 1) := by decide +kernel
theorem dX8_inForce_77 : decode cX8_inForce 77 = .ok (.iload 4, 2) := by decide +kernel
theorem dX8_inForce_79 : decode cX8_inForce 79 = .ok (.if_icmp .lt 21, 3) := by decide +kernel
theorem dX8_inForce_82 : decode cX8_inForce 82 = .ok (.aload_n 0, 1) := by decide +kernel
theorem dX8_inForce_83 : decode cX8_inForce 83 = .ok (.getfield 21, 3) := by decide +kernel
theorem dX8_inForce_86 : decode cX8_inForce 86 = .ok (.iload 6, 2) := by decide +kernel
theorem dX8_inForce_88 : decode cX8_inForce 88 = .ok (.iaload, 1) := by decide +kernel
theorem dX8_inForce_89 : decode cX8_inForce 89 = .ok (.istore 4, 2) := by decide +kernel
theorem dX8_inForce_91 : decode cX8_inForce 91 = .ok (.aload_n 0, 1) := by decide +kernel
theorem dX8_inForce_92 : decode cX8_inForce 92 = .ok (.getfield 18, 3) := by decide +kernel
theorem dX8_inForce_95 : decode cX8_inForce 95 = .ok (.iload 6, 2) := by decide +kernel
theorem dX8_inForce_97 : decode cX8_inForce 97 = .ok (.iaload, 1) := by decide +kernel
theorem dX8_inForce_98 : decode cX8_inForce 98 = .ok (.istore 5, 2) := by decide +kernel
theorem dX8_inForce_100 : decode cX8_inForce 100 = .ok (.iinc 6 1, 3) := by decide +kernel
theorem dX8_inForce_103 : decode cX8_inForce 103 = .ok (.goto (-94), 3) := by decide +kernel
theorem dX8_inForce_106 : decode cX8_inForce 106 = .ok (.iload 5, 2) := by decide +kernel
theorem dX8_inForce_108 : decode cX8_inForce 108 = .ok (.ireturn, 1) := by decide +kernel
theorem dX8_claimOf_0 : decode cX8_claimOf 0 = .ok (.iconst 0, 1) := by decide +kernel
theorem dX8_claimOf_1 : decode cX8_claimOf 1 = .ok (.istore 4, 2) := by decide +kernel
theorem dX8_claimOf_3 : decode cX8_claimOf 3 = .ok (.iconst 0, 1) := by decide +kernel
theorem dX8_claimOf_4 : decode cX8_claimOf 4 = .ok (.istore 5, 2) := by decide +kernel
theorem dX8_claimOf_6 : decode cX8_claimOf 6 = .ok (.iload 5, 2) := by decide +kernel
theorem dX8_claimOf_8 : decode cX8_claimOf 8 = .ok (.bipush 12, 2) := by decide +kernel
theorem dX8_claimOf_10 : decode cX8_claimOf 10 = .ok (.if_icmp .ge 40, 3) := by decide +kernel
theorem dX8_claimOf_13 : decode cX8_claimOf 13 = .ok (.aload_n 2, 1) := by decide +kernel
theorem dX8_claimOf_14 : decode cX8_claimOf 14 = .ok (.getfield 28, 3) := by decide +kernel
theorem dX8_claimOf_17 : decode cX8_claimOf 17 = .ok (.iload 5, 2) := by decide +kernel
theorem dX8_claimOf_19 : decode cX8_claimOf 19 = .ok (.iaload, 1) := by decide +kernel
theorem dX8_claimOf_20 : decode cX8_claimOf 20 = .ok (.ifCond .eq 24, 3) := by decide +kernel
theorem dX8_claimOf_23 : decode cX8_claimOf 23 = .ok (.iload 4, 2) := by decide +kernel
theorem dX8_claimOf_25 : decode cX8_claimOf 25 = .ok (.aload_n 2, 1) := by decide +kernel
theorem dX8_claimOf_26 : decode cX8_claimOf 26 = .ok (.getfield 28, 3) := by decide +kernel
theorem dX8_claimOf_29 : decode cX8_claimOf 29 = .ok (.iload 5, 2) := by decide +kernel
theorem dX8_claimOf_31 : decode cX8_claimOf 31 = .ok (.iaload, 1) := by decide +kernel
theorem dX8_claimOf_32 : decode cX8_claimOf 32 = .ok (.aload_n 0, 1) := by decide +kernel
theorem dX8_claimOf_33 : decode cX8_claimOf 33 = .ok (.iload 5, 2) := by decide +kernel
theorem dX8_claimOf_35 : decode cX8_claimOf 35 = .ok (.iload_n 1, 1) := by decide +kernel
theorem dX8_claimOf_36 : decode cX8_claimOf 36 = .ok (.iload_n 3, 1) := by decide +kernel
theorem dX8_claimOf_37 : decode cX8_claimOf 37 = .ok (.invokevirtual 33, 3) := by decide +kernel
theorem dX8_claimOf_40 : decode cX8_claimOf 40 = .ok (.imul, 1) := by decide +kernel
theorem dX8_claimOf_41 : decode cX8_claimOf 41 = .ok (.iadd, 1) := by decide +kernel
theorem dX8_claimOf_42 : decode cX8_claimOf 42 = .ok (.istore 4, 2) := by decide +kernel
theorem dX8_claimOf_44 : decode cX8_claimOf 44 = .ok (.iinc 5 1, 3) := by decide +kernel
theorem dX8_claimOf_47 : decode cX8_claimOf 47 = .ok (.goto (-41), 3) := by decide +kernel
theorem dX8_claimOf_50 : decode cX8_claimOf 50 = .ok (.iload 4, 2) := by decide +kernel
theorem dX8_claimOf_52 : decode cX8_claimOf 52 = .ok (.ireturn, 1) := by decide +kernel
theorem dX9_init_0 : decode cX9_init 0 = .ok (.aload_n 0, 1) := by decide +kernel
theorem dX9_init_1 : decode cX9_init 1 = .ok (.invokespecial 3, 3) := by decide +kernel
theorem dX9_init_4 : decode cX9_init 4 = .ok (.aload_n 0, 1) := by decide +kernel
theorem dX9_init_5 : decode cX9_init 5 = .ok (.sipush 200, 3) := by decide +kernel
theorem dX9_init_8 : decode cX9_init 8 = .ok (.newarray .int, 2) := by decide +kernel
theorem dX9_init_10 : decode cX9_init 10 = .ok (.putfield 9, 3) := by decide +kernel
theorem dX9_init_13 : decode cX9_init 13 = .ok (.return_, 1) := by decide +kernel
theorem dX9_bytesIn_0 : decode cX9_bytesIn 0 = .ok (.iconst 0, 1) := by decide +kernel
theorem dX9_bytesIn_1 : decode cX9_bytesIn 1 = .ok (.istore_n 1, 1) := by decide +kernel
theorem dX9_bytesIn_2 : decode cX9_bytesIn 2 = .ok (.bipush 24, 2) := by decide +kernel
theorem dX9_bytesIn_4 : decode cX9_bytesIn 4 = .ok (.istore_n 2, 1) := by decide +kernel
theorem dX9_bytesIn_5 : decode cX9_bytesIn 5 = .ok (.iload_n 2, 1) := by decide +kernel
theorem dX9_bytesIn_6 : decode cX9_bytesIn 6 = .ok (.ifCond .lt 22, 3) := by decide +kernel
theorem dX9_bytesIn_9 : decode cX9_bytesIn 9 = .ok (.iload_n 0, 1) := by decide +kernel
theorem dX9_bytesIn_10 : decode cX9_bytesIn 10 = .ok (.iload_n 2, 1) := by decide +kernel
theorem dX9_bytesIn_11 : decode cX9_bytesIn 11 = .ok (.iushr, 1) := by decide +kernel
theorem dX9_bytesIn_12 : decode cX9_bytesIn 12 = .ok (.sipush 255, 3) := by decide +kernel
theorem dX9_bytesIn_15 : decode cX9_bytesIn 15 = .ok (.iand, 1) := by decide +kernel
theorem dX9_bytesIn_16 : decode cX9_bytesIn 16 = .ok (.ifCond .eq 6, 3) := by decide +kernel
theorem dX9_bytesIn_19 : decode cX9_bytesIn 19 = .ok (.iinc 1 1, 3) := by decide +kernel
theorem dX9_bytesIn_22 : decode cX9_bytesIn 22 = .ok (.iinc 2 (-8), 3) := by decide +kernel
theorem dX9_bytesIn_25 : decode cX9_bytesIn 25 = .ok (.goto (-20), 3) := by decide +kernel
theorem dX9_bytesIn_28 : decode cX9_bytesIn 28 = .ok (.iload_n 1, 1) := by decide +kernel
theorem dX9_bytesIn_29 : decode cX9_bytesIn 29 = .ok (.ireturn, 1) := by decide +kernel
theorem dX9_append_0 : decode cX9_append 0 = .ok (.bipush 24, 2) := by decide +kernel
theorem dX9_append_2 : decode cX9_append 2 = .ok (.istore_n 2, 1) := by decide +kernel
theorem dX9_append_3 : decode cX9_append 3 = .ok (.iload_n 2, 1) := by decide +kernel
theorem dX9_append_4 : decode cX9_append 4 = .ok (.ifCond .lt 53, 3) := by decide +kernel
theorem dX9_append_7 : decode cX9_append 7 = .ok (.iload_n 1, 1) := by decide +kernel
theorem dX9_append_8 : decode cX9_append 8 = .ok (.iload_n 2, 1) := by decide +kernel
theorem dX9_append_9 : decode cX9_append 9 = .ok (.iushr, 1) := by decide +kernel
theorem dX9_append_10 : decode cX9_append 10 = .ok (.sipush 255, 3) := by decide +kernel
theorem dX9_append_13 : decode cX9_append 13 = .ok (.iand, 1) := by decide +kernel
theorem dX9_append_14 : decode cX9_append 14 = .ok (.istore_n 3, 1) := by decide +kernel
theorem dX9_append_15 : decode cX9_append 15 = .ok (.iload_n 3, 1) := by decide +kernel
theorem dX9_append_16 : decode cX9_append 16 = .ok (.ifCond .eq 35, 3) := by decide +kernel
theorem dX9_append_19 : decode cX9_append 19 = .ok (.aload_n 0, 1) := by decide +kernel
theorem dX9_append_20 : decode cX9_append 20 = .ok (.getfield 15, 3) := by decide +kernel
theorem dX9_append_23 : decode cX9_append 23 = .ok (.aload_n 0, 1) := by decide +kernel
theorem dX9_append_24 : decode cX9_append 24 = .ok (.getfield 9, 3) := by decide +kernel
theorem dX9_append_27 : decode cX9_append 27 = .ok (.arraylength, 1) := by decide +kernel
theorem dX9_append_28 : decode cX9_append 28 = .ok (.if_icmp .ge 23, 3) := by decide +kernel
theorem dX9_append_31 : decode cX9_append 31 = .ok (.aload_n 0, 1) := by decide +kernel
theorem dX9_append_32 : decode cX9_append 32 = .ok (.getfield 9, 3) := by decide +kernel
theorem dX9_append_35 : decode cX9_append 35 = .ok (.aload_n 0, 1) := by decide +kernel
theorem dX9_append_36 : decode cX9_append 36 = .ok (.getfield 15, 3) := by decide +kernel
theorem dX9_append_39 : decode cX9_append 39 = .ok (.iload_n 3, 1) := by decide +kernel
theorem dX9_append_40 : decode cX9_append 40 = .ok (.iastore, 1) := by decide +kernel
theorem dX9_append_41 : decode cX9_append 41 = .ok (.aload_n 0, 1) := by decide +kernel
theorem dX9_append_42 : decode cX9_append 42 = .ok (.dup, 1) := by decide +kernel
theorem dX9_append_43 : decode cX9_append 43 = .ok (.getfield 15, 3) := by decide +kernel
theorem dX9_append_46 : decode cX9_append 46 = .ok (.iconst 1, 1) := by decide +kernel
theorem dX9_append_47 : decode cX9_append 47 = .ok (.iadd, 1) := by decide +kernel
theorem dX9_append_48 : decode cX9_append 48 = .ok (.putfield 15, 3) := by decide +kernel
theorem dX9_append_51 : decode cX9_append 51 = .ok (.iinc 2 (-8), 3) := by decide +kernel
theorem dX9_append_54 : decode cX9_append 54 = .ok (.goto (-51), 3) := by decide +kernel
theorem dX9_append_57 : decode cX9_append 57 = .ok (.return_, 1) := by decide +kernel
theorem dX9_byteAt_0 : decode cX9_byteAt 0 = .ok (.aload_n 0, 1) := by decide +kernel
theorem dX9_byteAt_1 : decode cX9_byteAt 1 = .ok (.getfield 9, 3) := by decide +kernel
theorem dX9_byteAt_4 : decode cX9_byteAt 4 = .ok (.iload_n 1, 1) := by decide +kernel
theorem dX9_byteAt_5 : decode cX9_byteAt 5 = .ok (.invokestatic 19, 3) := by decide +kernel
theorem dX9_byteAt_8 : decode cX9_byteAt 8 = .ok (.ireturn, 1) := by decide +kernel
theorem dX9_firstFault_0 : decode cX9_firstFault 0 = .ok (.iconst 0, 1) := by decide +kernel
theorem dX9_firstFault_1 : decode cX9_firstFault 1 = .ok (.istore_n 1, 1) := by decide +kernel
theorem dX9_firstFault_2 : decode cX9_firstFault 2 = .ok (.iconst 0, 1) := by decide +kernel
theorem dX9_firstFault_3 : decode cX9_firstFault 3 = .ok (.istore_n 2, 1) := by decide +kernel
theorem dX9_firstFault_4 : decode cX9_firstFault 4 = .ok (.iload_n 2, 1) := by decide +kernel
theorem dX9_firstFault_5 : decode cX9_firstFault 5 = .ok (.aload_n 0, 1) := by decide +kernel
theorem dX9_firstFault_6 : decode cX9_firstFault 6 = .ok (.getfield 15, 3) := by decide +kernel
theorem dX9_firstFault_9 : decode cX9_firstFault 9 = .ok (.if_icmp .ge 27, 3) := by decide +kernel
theorem dX9_firstFault_12 : decode cX9_firstFault 12 = .ok (.iload_n 1, 1) := by decide +kernel
theorem dX9_firstFault_13 : decode cX9_firstFault 13 = .ok (.aload_n 0, 1) := by decide +kernel
theorem dX9_firstFault_14 : decode cX9_firstFault 14 = .ok (.iload_n 2, 1) := by decide +kernel
theorem dX9_firstFault_15 : decode cX9_firstFault 15 = .ok (.invokevirtual 23, 3) := by decide +kernel
theorem dX9_firstFault_18 : decode cX9_firstFault 18 = .ok (.invokestatic 27, 3) := by decide +kernel
theorem dX9_firstFault_21 : decode cX9_firstFault 21 = .ok (.istore_n 1, 1) := by decide +kernel
theorem dX9_firstFault_22 : decode cX9_firstFault 22 = .ok (.iload_n 1, 1) := by decide +kernel
theorem dX9_firstFault_23 : decode cX9_firstFault 23 = .ok (.bipush 12, 2) := by decide +kernel
theorem dX9_firstFault_25 : decode cX9_firstFault 25 = .ok (.if_icmp .ne 5, 3) := by decide +kernel
theorem dX9_firstFault_28 : decode cX9_firstFault 28 = .ok (.iload_n 2, 1) := by decide +kernel
theorem dX9_firstFault_29 : decode cX9_firstFault 29 = .ok (.ireturn, 1) := by decide +kernel
theorem dX9_firstFault_30 : decode cX9_firstFault 30 = .ok (.iinc 2 1, 3) := by decide +kernel
theorem dX9_firstFault_33 : decode cX9_firstFault 33 = .ok (.goto (-29), 3) := by decide +kernel
theorem dX9_firstFault_36 : decode cX9_firstFault 36 = .ok (.iload_n 1, 1) := by decide +kernel
theorem dX9_firstFault_37 : decode cX9_firstFault 37 = .ok (.ifCond .eq 9, 3) := by decide +kernel
theorem dX9_firstFault_40 : decode cX9_firstFault 40 = .ok (.iload_n 1, 1) := by decide +kernel
theorem dX9_firstFault_41 : decode cX9_firstFault 41 = .ok (.bipush 10, 2) := by decide +kernel
theorem dX9_firstFault_43 : decode cX9_firstFault 43 = .ok (.if_icmp .ne 7, 3) := by decide +kernel
theorem dX9_firstFault_46 : decode cX9_firstFault 46 = .ok (.iconst (-1), 1) := by decide +kernel
theorem dX9_firstFault_47 : decode cX9_firstFault 47 = .ok (.goto 7, 3) := by decide +kernel
theorem dX9_firstFault_50 : decode cX9_firstFault 50 = .ok (.aload_n 0, 1) := by decide +kernel
theorem dX9_firstFault_51 : decode cX9_firstFault 51 = .ok (.getfield 15, 3) := by decide +kernel
theorem dX9_firstFault_54 : decode cX9_firstFault 54 = .ok (.ireturn, 1) := by decide +kernel
theorem dX9_after_0 : decode cX9_after 0 = .ok (.iload_n 1, 1) := by decide +kernel
theorem dX9_after_1 : decode cX9_after 1 = .ok (.bipush 32, 2) := by decide +kernel
theorem dX9_after_3 : decode cX9_after 3 = .ok (.if_icmp .ne 21, 3) := by decide +kernel
theorem dX9_after_6 : decode cX9_after 6 = .ok (.iload_n 0, 1) := by decide +kernel
theorem dX9_after_7 : decode cX9_after 7 = .ok (.iconst 2, 1) := by decide +kernel
theorem dX9_after_8 : decode cX9_after 8 = .ok (.if_icmp .le 14, 3) := by decide +kernel
theorem dX9_after_11 : decode cX9_after 11 = .ok (.iload_n 0, 1) := by decide +kernel
theorem dX9_after_12 : decode cX9_after 12 = .ok (.bipush 7, 2) := by decide +kernel
theorem dX9_after_14 : decode cX9_after 14 = .ok (.if_icmp .gt 8, 3) := by decide +kernel
theorem dX9_after_17 : decode cX9_after 17 = .ok (.bipush 8, 2) := by decide +kernel
theorem dX9_after_19 : decode cX9_after 19 = .ok (.goto 4, 3) := by decide +kernel
theorem dX9_after_22 : decode cX9_after 22 = .ok (.iload_n 0, 1) := by decide +kernel
theorem dX9_after_23 : decode cX9_after 23 = .ok (.ireturn, 1) := by decide +kernel
theorem dX9_after_24 : decode cX9_after 24 = .ok (.iload_n 0, 1) := by decide +kernel
theorem dX9_after_25 : decode cX9_after 25 = .ok (.tableswitch 148 0 11 #[63, 77, 91, 148, 148, 148, 148, 105, 105, 119, 134, 63], 63) := by decide +kernel
theorem dX9_after_88 : decode cX9_after 88 = .ok (.iload_n 1, 1) := by decide +kernel
theorem dX9_after_89 : decode cX9_after 89 = .ok (.invokestatic 31, 3) := by decide +kernel
theorem dX9_after_92 : decode cX9_after 92 = .ok (.ifCond .eq 7, 3) := by decide +kernel
theorem dX9_after_95 : decode cX9_after 95 = .ok (.iconst 1, 1) := by decide +kernel
theorem dX9_after_96 : decode cX9_after 96 = .ok (.goto 5, 3) := by decide +kernel
theorem dX9_after_99 : decode cX9_after 99 = .ok (.bipush 12, 2) := by decide +kernel
theorem dX9_after_101 : decode cX9_after 101 = .ok (.ireturn, 1) := by decide +kernel
theorem dX9_after_102 : decode cX9_after 102 = .ok (.iload_n 1, 1) := by decide +kernel
theorem dX9_after_103 : decode cX9_after 103 = .ok (.invokestatic 35, 3) := by decide +kernel
theorem dX9_after_106 : decode cX9_after 106 = .ok (.ifCond .eq 7, 3) := by decide +kernel
theorem dX9_after_109 : decode cX9_after 109 = .ok (.iconst 2, 1) := by decide +kernel
theorem dX9_after_110 : decode cX9_after 110 = .ok (.goto 5, 3) := by decide +kernel
theorem dX9_after_113 : decode cX9_after 113 = .ok (.bipush 12, 2) := by decide +kernel
theorem dX9_after_115 : decode cX9_after 115 = .ok (.ireturn, 1) := by decide +kernel
theorem dX9_after_116 : decode cX9_after 116 = .ok (.iload_n 1, 1) := by decide +kernel
theorem dX9_after_117 : decode cX9_after 117 = .ok (.invokestatic 38, 3) := by decide +kernel
theorem dX9_after_120 : decode cX9_after 120 = .ok (.ifCond .eq 7, 3) := by decide +kernel
theorem dX9_after_123 : decode cX9_after 123 = .ok (.iconst 3, 1) := by decide +kernel
theorem dX9_after_124 : decode cX9_after 124 = .ok (.goto 5, 3) := by decide +kernel
theorem dX9_after_127 : decode cX9_after 127 = .ok (.bipush 12, 2) := by decide +kernel
theorem dX9_after_129 : decode cX9_after 129 = .ok (.ireturn, 1) := by decide +kernel
theorem dX9_after_130 : decode cX9_after 130 = .ok (.iload_n 1, 1) := by decide +kernel
theorem dX9_after_131 : decode cX9_after 131 = .ok (.bipush 58, 2) := by decide +kernel
theorem dX9_after_133 : decode cX9_after 133 = .ok (.if_icmp .ne 8, 3) := by decide +kernel
theorem dX9_after_136 : decode cX9_after 136 = .ok (.bipush 9, 2) := by decide +kernel
theorem dX9_after_138 : decode cX9_after 138 = .ok (.goto 5, 3) := by decide +kernel
theorem dX9_after_141 : decode cX9_after 141 = .ok (.bipush 12, 2) := by decide +kernel
theorem dX9_after_143 : decode cX9_after 143 = .ok (.ireturn, 1) := by decide +kernel
theorem dX9_after_144 : decode cX9_after 144 = .ok (.iload_n 1, 1) := by decide +kernel
theorem dX9_after_145 : decode cX9_after 145 = .ok (.invokestatic 38, 3) := by decide +kernel
theorem dX9_after_148 : decode cX9_after 148 = .ok (.ifCond .eq 8, 3) := by decide +kernel
theorem dX9_after_151 : decode cX9_after 151 = .ok (.bipush 10, 2) := by decide +kernel
theorem dX9_after_153 : decode cX9_after 153 = .ok (.goto 5, 3) := by decide +kernel
theorem dX9_after_156 : decode cX9_after 156 = .ok (.bipush 12, 2) := by decide +kernel
theorem dX9_after_158 : decode cX9_after 158 = .ok (.ireturn, 1) := by decide +kernel
theorem dX9_after_159 : decode cX9_after 159 = .ok (.iload_n 1, 1) := by decide +kernel
theorem dX9_after_160 : decode cX9_after 160 = .ok (.bipush 59, 2) := by decide +kernel
theorem dX9_after_162 : decode cX9_after 162 = .ok (.if_icmp .ne 8, 3) := by decide +kernel
theorem dX9_after_165 : decode cX9_after 165 = .ok (.bipush 11, 2) := by decide +kernel
theorem dX9_after_167 : decode cX9_after 167 = .ok (.goto 5, 3) := by decide +kernel
theorem dX9_after_170 : decode cX9_after 170 = .ok (.bipush 12, 2) := by decide +kernel
theorem dX9_after_172 : decode cX9_after 172 = .ok (.ireturn, 1) := by decide +kernel
theorem dX9_after_173 : decode cX9_after 173 = .ok (.iload_n 0, 1) := by decide +kernel
theorem dX9_after_174 : decode cX9_after 174 = .ok (.iload_n 1, 1) := by decide +kernel
theorem dX9_after_175 : decode cX9_after 175 = .ok (.invokestatic 41, 3) := by decide +kernel
theorem dX9_after_178 : decode cX9_after 178 = .ok (.ireturn, 1) := by decide +kernel
theorem dX9_afterDigit_0 : decode cX9_afterDigit 0 = .ok (.iload_n 1, 1) := by decide +kernel
theorem dX9_afterDigit_1 : decode cX9_afterDigit 1 = .ok (.bipush 58, 2) := by decide +kernel
theorem dX9_afterDigit_3 : decode cX9_afterDigit 3 = .ok (.if_icmp .ne 6, 3) := by decide +kernel
theorem dX9_afterDigit_6 : decode cX9_afterDigit 6 = .ok (.bipush 9, 2) := by decide +kernel
theorem dX9_afterDigit_8 : decode cX9_afterDigit 8 = .ok (.ireturn, 1) := by decide +kernel
theorem dX9_afterDigit_9 : decode cX9_afterDigit 9 = .ok (.iload_n 1, 1) := by decide +kernel
theorem dX9_afterDigit_10 : decode cX9_afterDigit 10 = .ok (.invokestatic 38, 3) := by decide +kernel
theorem dX9_afterDigit_13 : decode cX9_afterDigit 13 = .ok (.ifCond .eq 9, 3) := by decide +kernel
theorem dX9_afterDigit_16 : decode cX9_afterDigit 16 = .ok (.iload_n 0, 1) := by decide +kernel
theorem dX9_afterDigit_17 : decode cX9_afterDigit 17 = .ok (.iconst 1, 1) := by decide +kernel
theorem dX9_afterDigit_18 : decode cX9_afterDigit 18 = .ok (.iadd, 1) := by decide +kernel
theorem dX9_afterDigit_19 : decode cX9_afterDigit 19 = .ok (.goto 5, 3) := by decide +kernel
theorem dX9_afterDigit_22 : decode cX9_afterDigit 22 = .ok (.bipush 12, 2) := by decide +kernel
theorem dX9_afterDigit_24 : decode cX9_afterDigit 24 = .ok (.ireturn, 1) := by decide +kernel
theorem dX9_isLetter_0 : decode cX9_isLetter 0 = .ok (.iload_n 0, 1) := by decide +kernel
theorem dX9_isLetter_1 : decode cX9_isLetter 1 = .ok (.bipush 104, 2) := by decide +kernel
theorem dX9_isLetter_3 : decode cX9_isLetter 3 = .ok (.if_icmp .eq 21, 3) := by decide +kernel
theorem dX9_isLetter_6 : decode cX9_isLetter 6 = .ok (.iload_n 0, 1) := by decide +kernel
theorem dX9_isLetter_7 : decode cX9_isLetter 7 = .ok (.bipush 109, 2) := by decide +kernel
theorem dX9_isLetter_9 : decode cX9_isLetter 9 = .ok (.if_icmp .eq 15, 3) := by decide +kernel
theorem dX9_isLetter_12 : decode cX9_isLetter 12 = .ok (.iload_n 0, 1) := by decide +kernel
theorem dX9_isLetter_13 : decode cX9_isLetter 13 = .ok (.bipush 99, 2) := by decide +kernel
theorem dX9_isLetter_15 : decode cX9_isLetter 15 = .ok (.if_icmp .eq 9, 3) := by decide +kernel
theorem dX9_isLetter_18 : decode cX9_isLetter 18 = .ok (.iload_n 0, 1) := by decide +kernel
theorem dX9_isLetter_19 : decode cX9_isLetter 19 = .ok (.bipush 111, 2) := by decide +kernel
theorem dX9_isLetter_21 : decode cX9_isLetter 21 = .ok (.if_icmp .ne 7, 3) := by decide +kernel
theorem dX9_isLetter_24 : decode cX9_isLetter 24 = .ok (.iconst 1, 1) := by decide +kernel
theorem dX9_isLetter_25 : decode cX9_isLetter 25 = .ok (.goto 4, 3) := by decide +kernel
theorem dX9_isLetter_28 : decode cX9_isLetter 28 = .ok (.iconst 0, 1) := by decide +kernel
theorem dX9_isLetter_29 : decode cX9_isLetter 29 = .ok (.ireturn, 1) := by decide +kernel
theorem dX9_isSign_0 : decode cX9_isSign 0 = .ok (.iload_n 0, 1) := by decide +kernel
theorem dX9_isSign_1 : decode cX9_isSign 1 = .ok (.bipush 61, 2) := by decide +kernel
theorem dX9_isSign_3 : decode cX9_isSign 3 = .ok (.if_icmp .eq 15, 3) := by decide +kernel
theorem dX9_isSign_6 : decode cX9_isSign 6 = .ok (.iload_n 0, 1) := by decide +kernel
theorem dX9_isSign_7 : decode cX9_isSign 7 = .ok (.bipush 60, 2) := by decide +kernel
theorem dX9_isSign_9 : decode cX9_isSign 9 = .ok (.if_icmp .eq 9, 3) := by decide +kernel
theorem dX9_isSign_12 : decode cX9_isSign 12 = .ok (.iload_n 0, 1) := by decide +kernel
theorem dX9_isSign_13 : decode cX9_isSign 13 = .ok (.bipush 62, 2) := by decide +kernel
theorem dX9_isSign_15 : decode cX9_isSign 15 = .ok (.if_icmp .ne 7, 3) := by decide +kernel
theorem dX9_isSign_18 : decode cX9_isSign 18 = .ok (.iconst 1, 1) := by decide +kernel
theorem dX9_isSign_19 : decode cX9_isSign 19 = .ok (.goto 4, 3) := by decide +kernel
theorem dX9_isSign_22 : decode cX9_isSign 22 = .ok (.iconst 0, 1) := by decide +kernel
theorem dX9_isSign_23 : decode cX9_isSign 23 = .ok (.ireturn, 1) := by decide +kernel
theorem dX9_isDigit_0 : decode cX9_isDigit 0 = .ok (.iload_n 0, 1) := by decide +kernel
theorem dX9_isDigit_1 : decode cX9_isDigit 1 = .ok (.bipush 48, 2) := by decide +kernel
theorem dX9_isDigit_3 : decode cX9_isDigit 3 = .ok (.if_icmp .lt 13, 3) := by decide +kernel
theorem dX9_isDigit_6 : decode cX9_isDigit 6 = .ok (.iload_n 0, 1) := by decide +kernel
theorem dX9_isDigit_7 : decode cX9_isDigit 7 = .ok (.bipush 57, 2) := by decide +kernel
theorem dX9_isDigit_9 : decode cX9_isDigit 9 = .ok (.if_icmp .gt 7, 3) := by decide +kernel
theorem dX9_isDigit_12 : decode cX9_isDigit 12 = .ok (.iconst 1, 1) := by decide +kernel
theorem dX9_isDigit_13 : decode cX9_isDigit 13 = .ok (.goto 4, 3) := by decide +kernel
theorem dX9_isDigit_16 : decode cX9_isDigit 16 = .ok (.iconst 0, 1) := by decide +kernel
theorem dX9_isDigit_17 : decode cX9_isDigit 17 = .ok (.ireturn, 1) := by decide +kernel
theorem dX10_init_0 : decode cX10_init 0 = .ok (.aload_n 0, 1) := by decide +kernel
theorem dX10_init_1 : decode cX10_init 1 = .ok (.invokespecial 3, 3) := by decide +kernel
theorem dX10_init_4 : decode cX10_init 4 = .ok (.aload_n 0, 1) := by decide +kernel
theorem dX10_init_5 : decode cX10_init 5 = .ok (.bipush 12, 2) := by decide +kernel
theorem dX10_init_7 : decode cX10_init 7 = .ok (.newarray .int, 2) := by decide +kernel
theorem dX10_init_9 : decode cX10_init 9 = .ok (.putfield 9, 3) := by decide +kernel
theorem dX10_init_12 : decode cX10_init 12 = .ok (.aload_n 0, 1) := by decide +kernel
theorem dX10_init_13 : decode cX10_init 13 = .ok (.bipush 8, 2) := by decide +kernel
theorem dX10_init_15 : decode cX10_init 15 = .ok (.newarray .int, 2) := by decide +kernel
theorem dX10_init_17 : decode cX10_init 17 = .ok (.putfield 15, 3) := by decide +kernel
theorem dX10_init_20 : decode cX10_init 20 = .ok (.return_, 1) := by decide +kernel
theorem dX10_addOre_0 : decode cX10_addOre 0 = .ok (.iload_n 1, 1) := by decide +kernel
theorem dX10_addOre_1 : decode cX10_addOre 1 = .ok (.ifCond .lt 12, 3) := by decide +kernel
theorem dX10_addOre_4 : decode cX10_addOre 4 = .ok (.iload_n 1, 1) := by decide +kernel
theorem dX10_addOre_5 : decode cX10_addOre 5 = .ok (.aload_n 0, 1) := by decide +kernel
theorem dX10_addOre_6 : decode cX10_addOre 6 = .ok (.getfield 9, 3) := by decide +kernel
theorem dX10_addOre_9 : decode cX10_addOre 9 = .ok (.arraylength, 1) := by decide +kernel
theorem dX10_addOre_10 : decode cX10_addOre 10 = .ok (.if_icmp .lt 5, 3) := by decide +kernel
theorem dX10_addOre_13 : decode cX10_addOre 13 = .ok (.iconst (-1), 1) := by decide +kernel
theorem dX10_addOre_14 : decode cX10_addOre 14 = .ok (.ireturn, 1) := by decide +kernel
theorem dX10_addOre_15 : decode cX10_addOre 15 = .ok (.aload_n 0, 1) := by decide +kernel
theorem dX10_addOre_16 : decode cX10_addOre 16 = .ok (.getfield 9, 3) := by decide +kernel
theorem dX10_addOre_19 : decode cX10_addOre 19 = .ok (.iload_n 1, 1) := by decide +kernel
theorem dX10_addOre_20 : decode cX10_addOre 20 = .ok (.dup2, 1) := by decide +kernel
theorem dX10_addOre_21 : decode cX10_addOre 21 = .ok (.iaload, 1) := by decide +kernel
theorem dX10_addOre_22 : decode cX10_addOre 22 = .ok (.iload_n 2, 1) := by decide +kernel
theorem dX10_addOre_23 : decode cX10_addOre 23 = .ok (.iadd, 1) := by decide +kernel
theorem dX10_addOre_24 : decode cX10_addOre 24 = .ok (.iastore, 1) := by decide +kernel
theorem dX10_addOre_25 : decode cX10_addOre 25 = .ok (.aload_n 0, 1) := by decide +kernel
theorem dX10_addOre_26 : decode cX10_addOre 26 = .ok (.getfield 9, 3) := by decide +kernel
theorem dX10_addOre_29 : decode cX10_addOre 29 = .ok (.iload_n 1, 1) := by decide +kernel
theorem dX10_addOre_30 : decode cX10_addOre 30 = .ok (.iaload, 1) := by decide +kernel
theorem dX10_addOre_31 : decode cX10_addOre 31 = .ok (.ireturn, 1) := by decide +kernel
theorem dX10_addCoal_0 : decode cX10_addCoal 0 = .ok (.iload_n 1, 1) := by decide +kernel
theorem dX10_addCoal_1 : decode cX10_addCoal 1 = .ok (.ifCond .lt 25, 3) := by decide +kernel
theorem dX10_addCoal_4 : decode cX10_addCoal 4 = .ok (.iload_n 1, 1) := by decide +kernel
theorem dX10_addCoal_5 : decode cX10_addCoal 5 = .ok (.aload_n 0, 1) := by decide +kernel
theorem dX10_addCoal_6 : decode cX10_addCoal 6 = .ok (.getfield 15, 3) := by decide +kernel
theorem dX10_addCoal_9 : decode cX10_addCoal 9 = .ok (.arraylength, 1) := by decide +kernel
theorem dX10_addCoal_10 : decode cX10_addCoal 10 = .ok (.if_icmp .ge 16, 3) := by decide +kernel
theorem dX10_addCoal_13 : decode cX10_addCoal 13 = .ok (.aload_n 0, 1) := by decide +kernel
theorem dX10_addCoal_14 : decode cX10_addCoal 14 = .ok (.getfield 15, 3) := by decide +kernel
theorem dX10_addCoal_17 : decode cX10_addCoal 17 = .ok (.iload_n 1, 1) := by decide +kernel
theorem dX10_addCoal_18 : decode cX10_addCoal 18 = .ok (.iaload, 1) := by decide +kernel
theorem dX10_addCoal_19 : decode cX10_addCoal 19 = .ok (.iload_n 2, 1) := by decide +kernel
theorem dX10_addCoal_20 : decode cX10_addCoal 20 = .ok (.iadd, 1) := by decide +kernel
theorem dX10_addCoal_21 : decode cX10_addCoal 21 = .ok (.ldc 18, 2) := by decide +kernel
theorem dX10_addCoal_23 : decode cX10_addCoal 23 = .ok (.if_icmp .le 5, 3) := by decide +kernel
theorem dX10_addCoal_26 : decode cX10_addCoal 26 = .ok (.iconst (-1), 1) := by decide +kernel
theorem dX10_addCoal_27 : decode cX10_addCoal 27 = .ok (.ireturn, 1) := by decide +kernel
theorem dX10_addCoal_28 : decode cX10_addCoal 28 = .ok (.aload_n 0, 1) := by decide +kernel
theorem dX10_addCoal_29 : decode cX10_addCoal 29 = .ok (.getfield 15, 3) := by decide +kernel
theorem dX10_addCoal_32 : decode cX10_addCoal 32 = .ok (.iload_n 1, 1) := by decide +kernel
theorem dX10_addCoal_33 : decode cX10_addCoal 33 = .ok (.dup2, 1) := by decide +kernel
theorem dX10_addCoal_34 : decode cX10_addCoal 34 = .ok (.iaload, 1) := by decide +kernel
theorem dX10_addCoal_35 : decode cX10_addCoal 35 = .ok (.iload_n 2, 1) := by decide +kernel
theorem dX10_addCoal_36 : decode cX10_addCoal 36 = .ok (.iadd, 1) := by decide +kernel
theorem dX10_addCoal_37 : decode cX10_addCoal 37 = .ok (.iastore, 1) := by decide +kernel
theorem dX10_addCoal_38 : decode cX10_addCoal 38 = .ok (.aload_n 0, 1) := by decide +kernel
theorem dX10_addCoal_39 : decode cX10_addCoal 39 = .ok (.getfield 15, 3) := by decide +kernel
theorem dX10_addCoal_42 : decode cX10_addCoal 42 = .ok (.iload_n 1, 1) := by decide +kernel
theorem dX10_addCoal_43 : decode cX10_addCoal 43 = .ok (.iaload, 1) := by decide +kernel
theorem dX10_addCoal_44 : decode cX10_addCoal 44 = .ok (.ireturn, 1) := by decide +kernel
theorem dX11_init_0 : decode cX11_init 0 = .ok (.aload_n 0, 1) := by decide +kernel
theorem dX11_init_1 : decode cX11_init 1 = .ok (.invokespecial 3, 3) := by decide +kernel
theorem dX11_init_4 : decode cX11_init 4 = .ok (.aload_n 0, 1) := by decide +kernel
theorem dX11_init_5 : decode cX11_init 5 = .ok (.bipush 12, 2) := by decide +kernel
theorem dX11_init_7 : decode cX11_init 7 = .ok (.anewarray 9, 3) := by decide +kernel
theorem dX11_init_10 : decode cX11_init 10 = .ok (.putfield 11, 3) := by decide +kernel
theorem dX11_init_13 : decode cX11_init 13 = .ok (.aload_n 0, 1) := by decide +kernel
theorem dX11_init_14 : decode cX11_init 14 = .ok (.new 15, 3) := by decide +kernel
theorem dX11_init_17 : decode cX11_init 17 = .ok (.dup, 1) := by decide +kernel
theorem dX11_init_18 : decode cX11_init 18 = .ok (.invokespecial 17, 3) := by decide +kernel
theorem dX11_init_21 : decode cX11_init 21 = .ok (.putfield 18, 3) := by decide +kernel
theorem dX11_init_24 : decode cX11_init 24 = .ok (.aload_n 0, 1) := by decide +kernel
theorem dX11_init_25 : decode cX11_init 25 = .ok (.new 22, 3) := by decide +kernel
theorem dX11_init_28 : decode cX11_init 28 = .ok (.dup, 1) := by decide +kernel
theorem dX11_init_29 : decode cX11_init 29 = .ok (.invokespecial 24, 3) := by decide +kernel
theorem dX11_init_32 : decode cX11_init 32 = .ok (.putfield 25, 3) := by decide +kernel
theorem dX11_init_35 : decode cX11_init 35 = .ok (.aload_n 0, 1) := by decide +kernel
theorem dX11_init_36 : decode cX11_init 36 = .ok (.new 29, 3) := by decide +kernel
theorem dX11_init_39 : decode cX11_init 39 = .ok (.dup, 1) := by decide +kernel
theorem dX11_init_40 : decode cX11_init 40 = .ok (.invokespecial 31, 3) := by decide +kernel
theorem dX11_init_43 : decode cX11_init 43 = .ok (.putfield 32, 3) := by decide +kernel
theorem dX11_init_46 : decode cX11_init 46 = .ok (.aload_n 0, 1) := by decide +kernel
theorem dX11_init_47 : decode cX11_init 47 = .ok (.new 36, 3) := by decide +kernel
theorem dX11_init_50 : decode cX11_init 50 = .ok (.dup, 1) := by decide +kernel
theorem dX11_init_51 : decode cX11_init 51 = .ok (.invokespecial 38, 3) := by decide +kernel
theorem dX11_init_54 : decode cX11_init 54 = .ok (.putfield 39, 3) := by decide +kernel
theorem dX11_init_57 : decode cX11_init 57 = .ok (.aload_n 0, 1) := by decide +kernel
theorem dX11_init_58 : decode cX11_init 58 = .ok (.bipush 100, 2) := by decide +kernel
theorem dX11_init_60 : decode cX11_init 60 = .ok (.anewarray 43, 3) := by decide +kernel
theorem dX11_init_63 : decode cX11_init 63 = .ok (.putfield 45, 3) := by decide +kernel
theorem dX11_init_66 : decode cX11_init 66 = .ok (.aload_n 0, 1) := by decide +kernel
theorem dX11_init_67 : decode cX11_init 67 = .ok (.new 49, 3) := by decide +kernel
theorem dX11_init_70 : decode cX11_init 70 = .ok (.dup, 1) := by decide +kernel
theorem dX11_init_71 : decode cX11_init 71 = .ok (.invokespecial 51, 3) := by decide +kernel
theorem dX11_init_74 : decode cX11_init 74 = .ok (.putfield 52, 3) := by decide +kernel
theorem dX11_init_77 : decode cX11_init 77 = .ok (.aload_n 0, 1) := by decide +kernel
theorem dX11_init_78 : decode cX11_init 78 = .ok (.bipush 60, 2) := by decide +kernel
theorem dX11_init_80 : decode cX11_init 80 = .ok (.anewarray 56, 3) := by decide +kernel
theorem dX11_init_83 : decode cX11_init 83 = .ok (.putfield 58, 3) := by decide +kernel
theorem dX11_init_86 : decode cX11_init 86 = .ok (.aload_n 0, 1) := by decide +kernel
theorem dX11_init_87 : decode cX11_init 87 = .ok (.new 62, 3) := by decide +kernel
theorem dX11_init_90 : decode cX11_init 90 = .ok (.dup, 1) := by decide +kernel
theorem dX11_init_91 : decode cX11_init 91 = .ok (.invokespecial 64, 3) := by decide +kernel
theorem dX11_init_94 : decode cX11_init 94 = .ok (.putfield 65, 3) := by decide +kernel
theorem dX11_init_97 : decode cX11_init 97 = .ok (.aload_n 0, 1) := by decide +kernel
theorem dX11_init_98 : decode cX11_init 98 = .ok (.new 69, 3) := by decide +kernel
theorem dX11_init_101 : decode cX11_init 101 = .ok (.dup, 1) := by decide +kernel
theorem dX11_init_102 : decode cX11_init 102 = .ok (.invokespecial 71, 3) := by decide +kernel
theorem dX11_init_105 : decode cX11_init 105 = .ok (.putfield 72, 3) := by decide +kernel
theorem dX11_init_108 : decode cX11_init 108 = .ok (.aload_n 0, 1) := by decide +kernel
theorem dX11_init_109 : decode cX11_init 109 = .ok (.new 76, 3) := by decide +kernel
theorem dX11_init_112 : decode cX11_init 112 = .ok (.dup, 1) := by decide +kernel
theorem dX11_init_113 : decode cX11_init 113 = .ok (.invokespecial 78, 3) := by decide +kernel
theorem dX11_init_116 : decode cX11_init 116 = .ok (.putfield 79, 3) := by decide +kernel
theorem dX11_init_119 : decode cX11_init 119 = .ok (.aload_n 0, 1) := by decide +kernel
theorem dX11_init_120 : decode cX11_init 120 = .ok (.bipush 8, 2) := by decide +kernel
theorem dX11_init_122 : decode cX11_init 122 = .ok (.newarray .int, 2) := by decide +kernel
theorem dX11_init_124 : decode cX11_init 124 = .ok (.putfield 83, 3) := by decide +kernel
theorem dX11_init_127 : decode cX11_init 127 = .ok (.return_, 1) := by decide +kernel
theorem dX11_bog_0 : decode cX11_bog 0 = .ok (.aload_n 0, 1) := by decide +kernel
theorem dX11_bog_1 : decode cX11_bog 1 = .ok (.getfield 87, 3) := by decide +kernel
theorem dX11_bog_4 : decode cX11_bog 4 = .ok (.aload_n 0, 1) := by decide +kernel
theorem dX11_bog_5 : decode cX11_bog 5 = .ok (.getfield 11, 3) := by decide +kernel
theorem dX11_bog_8 : decode cX11_bog 8 = .ok (.arraylength, 1) := by decide +kernel
theorem dX11_bog_9 : decode cX11_bog 9 = .ok (.if_icmp .ge 34, 3) := by decide +kernel
theorem dX11_bog_12 : decode cX11_bog 12 = .ok (.iload_n 1, 1) := by decide +kernel
theorem dX11_bog_13 : decode cX11_bog 13 = .ok (.iconst 0, 1) := by decide +kernel
theorem dX11_bog_14 : decode cX11_bog 14 = .ok (.ldc 91, 2) := by decide +kernel
theorem dX11_bog_16 : decode cX11_bog 16 = .ok (.invokestatic 92, 3) := by decide +kernel
theorem dX11_bog_19 : decode cX11_bog 19 = .ok (.ifCond .eq 24, 3) := by decide +kernel
theorem dX11_bog_22 : decode cX11_bog 22 = .ok (.iload_n 2, 1) := by decide +kernel
theorem dX11_bog_23 : decode cX11_bog 23 = .ok (.iconst 0, 1) := by decide +kernel
theorem dX11_bog_24 : decode cX11_bog 24 = .ok (.sipush 5000, 3) := by decide +kernel
theorem dX11_bog_27 : decode cX11_bog 27 = .ok (.invokestatic 92, 3) := by decide +kernel
theorem dX11_bog_30 : decode cX11_bog 30 = .ok (.ifCond .eq 13, 3) := by decide +kernel
theorem dX11_bog_33 : decode cX11_bog 33 = .ok (.iload_n 3, 1) := by decide +kernel
theorem dX11_bog_34 : decode cX11_bog 34 = .ok (.iconst 0, 1) := by decide +kernel
theorem dX11_bog_35 : decode cX11_bog 35 = .ok (.bipush 20, 2) := by decide +kernel
theorem dX11_bog_37 : decode cX11_bog 37 = .ok (.invokestatic 92, 3) := by decide +kernel
theorem dX11_bog_40 : decode cX11_bog 40 = .ok (.ifCond .ne 5, 3) := by decide +kernel
theorem dX11_bog_43 : decode cX11_bog 43 = .ok (.iconst (-1), 1) := by decide +kernel
theorem dX11_bog_44 : decode cX11_bog 44 = .ok (.ireturn, 1) := by decide +kernel
theorem dX11_bog_45 : decode cX11_bog 45 = .ok (.aload_n 0, 1) := by decide +kernel
theorem dX11_bog_46 : decode cX11_bog 46 = .ok (.getfield 11, 3) := by decide +kernel
theorem dX11_bog_49 : decode cX11_bog 49 = .ok (.aload_n 0, 1) := by decide +kernel
theorem dX11_bog_50 : decode cX11_bog 50 = .ok (.getfield 87, 3) := by decide +kernel
theorem dX11_bog_53 : decode cX11_bog 53 = .ok (.new 9, 3) := by decide +kernel
theorem dX11_bog_56 : decode cX11_bog 56 = .ok (.dup, 1) := by decide +kernel
theorem dX11_bog_57 : decode cX11_bog 57 = .ok (.iload_n 1, 1) := by decide +kernel
theorem dX11_bog_58 : decode cX11_bog 58 = .ok (.iload_n 2, 1) := by decide +kernel
theorem dX11_bog_59 : decode cX11_bog 59 = .ok (.iload_n 3, 1) := by decide +kernel
theorem dX11_bog_60 : decode cX11_bog 60 = .ok (.invokespecial 96, 3) := by decide +kernel
theorem dX11_bog_63 : decode cX11_bog 63 = .ok (.aastore, 1) := by decide +kernel
theorem dX11_bog_64 : decode cX11_bog 64 = .ok (.aload_n 0, 1) := by decide +kernel
theorem dX11_bog_65 : decode cX11_bog 65 = .ok (.dup, 1) := by decide +kernel
theorem dX11_bog_66 : decode cX11_bog 66 = .ok (.getfield 87, 3) := by decide +kernel
theorem dX11_bog_69 : decode cX11_bog 69 = .ok (.dup_x1, 1) := by decide +kernel
theorem dX11_bog_70 : decode cX11_bog 70 = .ok (.iconst 1, 1) := by decide +kernel
theorem dX11_bog_71 : decode cX11_bog 71 = .ok (.iadd, 1) := by decide +kernel
theorem dX11_bog_72 : decode cX11_bog 72 = .ok (.putfield 87, 3) := by decide +kernel
theorem dX11_bog_75 : decode cX11_bog 75 = .ok (.ireturn, 1) := by decide +kernel
theorem dX11_test_0 : decode cX11_test 0 = .ok (.aload_n 0, 1) := by decide +kernel
theorem dX11_test_1 : decode cX11_test 1 = .ok (.iload_n 1, 1) := by decide +kernel
theorem dX11_test_2 : decode cX11_test 2 = .ok (.invokevirtual 99, 3) := by decide +kernel
theorem dX11_test_5 : decode cX11_test 5 = .ok (.astore 4, 2) := by decide +kernel
theorem dX11_test_7 : decode cX11_test 7 = .ok (.aload 4, 2) := by decide +kernel
theorem dX11_test_9 : decode cX11_test 9 = .ok (.ifnull 25, 3) := by decide +kernel
theorem dX11_test_12 : decode cX11_test 12 = .ok (.iload_n 2, 1) := by decide +kernel
theorem dX11_test_13 : decode cX11_test 13 = .ok (.iconst 0, 1) := by decide +kernel
theorem dX11_test_14 : decode cX11_test 14 = .ok (.sipush 1000, 3) := by decide +kernel
theorem dX11_test_17 : decode cX11_test 17 = .ok (.invokestatic 92, 3) := by decide +kernel
theorem dX11_test_20 : decode cX11_test 20 = .ok (.ifCond .eq 14, 3) := by decide +kernel
theorem dX11_test_23 : decode cX11_test 23 = .ok (.iload_n 3, 1) := by decide +kernel
theorem dX11_test_24 : decode cX11_test 24 = .ok (.iload_n 2, 1) := by decide +kernel
theorem dX11_test_25 : decode cX11_test 25 = .ok (.sipush 1000, 3) := by decide +kernel
theorem dX11_test_28 : decode cX11_test 28 = .ok (.invokestatic 92, 3) := by decide +kernel
theorem dX11_test_31 : decode cX11_test 31 = .ok (.ifCond .ne 5, 3) := by decide +kernel
theorem dX11_test_34 : decode cX11_test 34 = .ok (.iconst 0, 1) := by decide +kernel
theorem dX11_test_35 : decode cX11_test 35 = .ok (.ireturn, 1) := by decide +kernel
theorem dX11_test_36 : decode cX11_test 36 = .ok (.aload 4, 2) := by decide +kernel
theorem dX11_test_38 : decode cX11_test 38 = .ok (.iload_n 2, 1) := by decide +kernel
theorem dX11_test_39 : decode cX11_test 39 = .ok (.iload_n 3, 1) := by decide +kernel
theorem dX11_test_40 : decode cX11_test 40 = .ok (.invokevirtual 103, 3) := by decide +kernel
theorem dX11_test_43 : decode cX11_test 43 = .ok (.ireturn, 1) := by decide +kernel
theorem dX11_dig_0 : decode cX11_dig 0 = .ok (.aload_n 0, 1) := by decide +kernel
theorem dX11_dig_1 : decode cX11_dig 1 = .ok (.iload_n 1, 1) := by decide +kernel
theorem dX11_dig_2 : decode cX11_dig 2 = .ok (.invokevirtual 99, 3) := by decide +kernel
theorem dX11_dig_5 : decode cX11_dig 5 = .ok (.astore_n 3, 1) := by decide +kernel
theorem dX11_dig_6 : decode cX11_dig 6 = .ok (.aload_n 3, 1) := by decide +kernel
theorem dX11_dig_7 : decode cX11_dig 7 = .ok (.ifnull 26, 3) := by decide +kernel
theorem dX11_dig_10 : decode cX11_dig 10 = .ok (.iload_n 2, 1) := by decide +kernel
theorem dX11_dig_11 : decode cX11_dig 11 = .ok (.iconst 1, 1) := by decide +kernel
theorem dX11_dig_12 : decode cX11_dig 12 = .ok (.aload_n 3, 1) := by decide +kernel
theorem dX11_dig_13 : decode cX11_dig 13 = .ok (.getfield 107, 3) := by decide +kernel
theorem dX11_dig_16 : decode cX11_dig 16 = .ok (.invokestatic 92, 3) := by decide +kernel
theorem dX11_dig_19 : decode cX11_dig 19 = .ok (.ifCond .eq 14, 3) := by decide +kernel
theorem dX11_dig_22 : decode cX11_dig 22 = .ok (.aload_n 3, 1) := by decide +kernel
theorem dX11_dig_23 : decode cX11_dig 23 = .ok (.aload_n 0, 1) := by decide +kernel
theorem dX11_dig_24 : decode cX11_dig 24 = .ok (.getfield 110, 3) := by decide +kernel
theorem dX11_dig_27 : decode cX11_dig 27 = .ok (.invokevirtual 113, 3) := by decide +kernel
theorem dX11_dig_30 : decode cX11_dig 30 = .ok (.ifCond .eq 5, 3) := by decide +kernel
theorem dX11_dig_33 : decode cX11_dig 33 = .ok (.iconst (-1), 1) := by decide +kernel
theorem dX11_dig_34 : decode cX11_dig 34 = .ok (.ireturn, 1) := by decide +kernel
theorem dX11_dig_35 : decode cX11_dig 35 = .ok (.aload_n 3, 1) := by decide +kernel
theorem dX11_dig_36 : decode cX11_dig 36 = .ok (.dup, 1) := by decide +kernel
theorem dX11_dig_37 : decode cX11_dig 37 = .ok (.getfield 107, 3) := by decide +kernel
theorem dX11_dig_40 : decode cX11_dig 40 = .ok (.iload_n 2, 1) := by decide +kernel
theorem dX11_dig_41 : decode cX11_dig 41 = .ok (.isub, 1) := by decide +kernel
theorem dX11_dig_42 : decode cX11_dig 42 = .ok (.putfield 107, 3) := by decide +kernel
theorem dX11_dig_45 : decode cX11_dig 45 = .ok (.aload_n 3, 1) := by decide +kernel
theorem dX11_dig_46 : decode cX11_dig 46 = .ok (.aload_n 0, 1) := by decide +kernel
theorem dX11_dig_47 : decode cX11_dig 47 = .ok (.getfield 110, 3) := by decide +kernel
theorem dX11_dig_50 : decode cX11_dig 50 = .ok (.putfield 117, 3) := by decide +kernel
theorem dX11_dig_53 : decode cX11_dig 53 = .ok (.aload_n 0, 1) := by decide +kernel
theorem dX11_dig_54 : decode cX11_dig 54 = .ok (.getfield 18, 3) := by decide +kernel
theorem dX11_dig_57 : decode cX11_dig 57 = .ok (.iload_n 1, 1) := by decide +kernel
theorem dX11_dig_58 : decode cX11_dig 58 = .ok (.iload_n 2, 1) := by decide +kernel
theorem dX11_dig_59 : decode cX11_dig 59 = .ok (.invokevirtual 120, 3) := by decide +kernel
theorem dX11_dig_62 : decode cX11_dig 62 = .ok (.ireturn, 1) := by decide +kernel
theorem dX11_coal_0 : decode cX11_coal 0 = .ok (.iload_n 2, 1) := by decide +kernel
theorem dX11_coal_1 : decode cX11_coal 1 = .ok (.iconst 1, 1) := by decide +kernel
theorem dX11_coal_2 : decode cX11_coal 2 = .ok (.sipush 10000, 3) := by decide +kernel
theorem dX11_coal_5 : decode cX11_coal 5 = .ok (.invokestatic 92, 3) := by decide +kernel
theorem dX11_coal_8 : decode cX11_coal 8 = .ok (.ifCond .eq 15, 3) := by decide +kernel
theorem dX11_coal_11 : decode cX11_coal 11 = .ok (.aload_n 0, 1) := by decide +kernel
theorem dX11_coal_12 : decode cX11_coal 12 = .ok (.getfield 18, 3) := by decide +kernel
theorem dX11_coal_15 : decode cX11_coal 15 = .ok (.iload_n 1, 1) := by decide +kernel
theorem dX11_coal_16 : decode cX11_coal 16 = .ok (.iload_n 2, 1) := by decide +kernel
theorem dX11_coal_17 : decode cX11_coal 17 = .ok (.invokevirtual 124, 3) := by decide +kernel
theorem dX11_coal_20 : decode cX11_coal 20 = .ok (.goto 4, 3) := by decide +kernel
theorem dX11_coal_23 : decode cX11_coal 23 = .ok (.iconst (-1), 1) := by decide +kernel
theorem dX11_coal_24 : decode cX11_coal 24 = .ok (.ireturn, 1) := by decide +kernel
theorem dX11_year_0 : decode cX11_year 0 = .ok (.aload_n 0, 1) := by decide +kernel
theorem dX11_year_1 : decode cX11_year 1 = .ok (.getfield 110, 3) := by decide +kernel
theorem dX11_year_4 : decode cX11_year 4 = .ok (.bipush 100, 2) := by decide +kernel
theorem dX11_year_6 : decode cX11_year 6 = .ok (.if_icmp .ge 13, 3) := by decide +kernel
theorem dX11_year_9 : decode cX11_year 9 = .ok (.aload_n 0, 1) := by decide +kernel
theorem dX11_year_10 : decode cX11_year 10 = .ok (.getfield 39, 3) := by decide +kernel
theorem dX11_year_13 : decode cX11_year 13 = .ok (.invokevirtual 127, 3) := by decide +kernel
theorem dX11_year_16 : decode cX11_year 16 = .ok (.ifCond .eq 5, 3) := by decide +kernel
theorem dX11_year_19 : decode cX11_year 19 = .ok (.iconst (-1), 1) := by decide +kernel
theorem dX11_year_20 : decode cX11_year 20 = .ok (.ireturn, 1) := by decide +kernel
theorem dX11_year_21 : decode cX11_year 21 = .ok (.iconst 0, 1) := by decide +kernel
theorem dX11_year_22 : decode cX11_year 22 = .ok (.istore_n 1, 1) := by decide +kernel
theorem dX11_year_23 : decode cX11_year 23 = .ok (.iload_n 1, 1) := by decide +kernel
theorem dX11_year_24 : decode cX11_year 24 = .ok (.aload_n 0, 1) := by decide +kernel
theorem dX11_year_25 : decode cX11_year 25 = .ok (.getfield 87, 3) := by decide +kernel
theorem dX11_year_28 : decode cX11_year 28 = .ok (.if_icmp .ge 23, 3) := by decide +kernel
theorem dX11_year_31 : decode cX11_year 31 = .ok (.aload_n 0, 1) := by decide +kernel
theorem dX11_year_32 : decode cX11_year 32 = .ok (.iload_n 1, 1) := by decide +kernel
theorem dX11_year_33 : decode cX11_year 33 = .ok (.invokevirtual 99, 3) := by decide +kernel
theorem dX11_year_36 : decode cX11_year 36 = .ok (.astore_n 2, 1) := by decide +kernel
theorem dX11_year_37 : decode cX11_year 37 = .ok (.aload_n 2, 1) := by decide +kernel
theorem dX11_year_38 : decode cX11_year 38 = .ok (.ifnull 7, 3) := by decide +kernel
theorem dX11_year_41 : decode cX11_year 41 = .ok (.aload_n 2, 1) := by decide +kernel
theorem dX11_year_42 : decode cX11_year 42 = .ok (.invokevirtual 131, 3) := by decide +kernel
theorem dX11_year_45 : decode cX11_year 45 = .ok (.iinc 1 1, 3) := by decide +kernel
theorem dX11_year_48 : decode cX11_year 48 = .ok (.goto (-25), 3) := by decide +kernel
theorem dX11_year_51 : decode cX11_year 51 = .ok (.aload_n 0, 1) := by decide +kernel
theorem dX11_year_52 : decode cX11_year 52 = .ok (.dup, 1) := by decide +kernel
theorem dX11_year_53 : decode cX11_year 53 = .ok (.getfield 110, 3) := by decide +kernel
theorem dX11_year_56 : decode cX11_year 56 = .ok (.iconst 1, 1) := by decide +kernel
theorem dX11_year_57 : decode cX11_year 57 = .ok (.iadd, 1) := by decide +kernel
theorem dX11_year_58 : decode cX11_year 58 = .ok (.putfield 110, 3) := by decide +kernel
theorem dX11_year_61 : decode cX11_year 61 = .ok (.aload_n 0, 1) := by decide +kernel
theorem dX11_year_62 : decode cX11_year 62 = .ok (.getfield 110, 3) := by decide +kernel
theorem dX11_year_65 : decode cX11_year 65 = .ok (.ireturn, 1) := by decide +kernel
theorem dX11_ground_0 : decode cX11_ground 0 = .ok (.aload_n 0, 1) := by decide +kernel
theorem dX11_ground_1 : decode cX11_ground 1 = .ok (.iload_n 1, 1) := by decide +kernel
theorem dX11_ground_2 : decode cX11_ground 2 = .ok (.invokevirtual 99, 3) := by decide +kernel
theorem dX11_ground_5 : decode cX11_ground 5 = .ok (.astore_n 3, 1) := by decide +kernel
theorem dX11_ground_6 : decode cX11_ground 6 = .ok (.aload_n 3, 1) := by decide +kernel
theorem dX11_ground_7 : decode cX11_ground 7 = .ok (.ifnonnull 5, 3) := by decide +kernel
theorem dX11_ground_10 : decode cX11_ground 10 = .ok (.iconst (-1), 1) := by decide +kernel
theorem dX11_ground_11 : decode cX11_ground 11 = .ok (.ireturn, 1) := by decide +kernel
theorem dX11_ground_12 : decode cX11_ground 12 = .ok (.iload_n 2, 1) := by decide +kernel
theorem dX11_ground_13 : decode cX11_ground 13 = .ok (.tableswitch 85 0 6 #[43, 48, 53, 58, 63, 68, 73], 43) := by decide +kernel
theorem dX11_ground_56 : decode cX11_ground 56 = .ok (.aload_n 3, 1) := by decide +kernel
theorem dX11_ground_57 : decode cX11_ground 57 = .ok (.getfield 107, 3) := by decide +kernel
theorem dX11_ground_60 : decode cX11_ground 60 = .ok (.ireturn, 1) := by decide +kernel
theorem dX11_ground_61 : decode cX11_ground 61 = .ok (.aload_n 3, 1) := by decide +kernel
theorem dX11_ground_62 : decode cX11_ground 62 = .ok (.getfield 134, 3) := by decide +kernel
theorem dX11_ground_65 : decode cX11_ground 65 = .ok (.ireturn, 1) := by decide +kernel
theorem dX11_ground_66 : decode cX11_ground 66 = .ok (.aload_n 3, 1) := by decide +kernel
theorem dX11_ground_67 : decode cX11_ground 67 = .ok (.getfield 137, 3) := by decide +kernel
theorem dX11_ground_70 : decode cX11_ground 70 = .ok (.ireturn, 1) := by decide +kernel
theorem dX11_ground_71 : decode cX11_ground 71 = .ok (.aload_n 3, 1) := by decide +kernel
theorem dX11_ground_72 : decode cX11_ground 72 = .ok (.getfield 140, 3) := by decide +kernel
theorem dX11_ground_75 : decode cX11_ground 75 = .ok (.ireturn, 1) := by decide +kernel
theorem dX11_ground_76 : decode cX11_ground 76 = .ok (.aload_n 3, 1) := by decide +kernel
theorem dX11_ground_77 : decode cX11_ground 77 = .ok (.getfield 143, 3) := by decide +kernel
theorem dX11_ground_80 : decode cX11_ground 80 = .ok (.ireturn, 1) := by decide +kernel
theorem dX11_ground_81 : decode cX11_ground 81 = .ok (.aload_n 3, 1) := by decide +kernel
theorem dX11_ground_82 : decode cX11_ground 82 = .ok (.getfield 117, 3) := by decide +kernel
theorem dX11_ground_85 : decode cX11_ground 85 = .ok (.ireturn, 1) := by decide +kernel
theorem dX11_ground_86 : decode cX11_ground 86 = .ok (.aload_n 0, 1) := by decide +kernel
theorem dX11_ground_87 : decode cX11_ground 87 = .ok (.getfield 18, 3) := by decide +kernel
theorem dX11_ground_90 : decode cX11_ground 90 = .ok (.getfield 146, 3) := by decide +kernel
theorem dX11_ground_93 : decode cX11_ground 93 = .ok (.iload_n 1, 1) := by decide +kernel
theorem dX11_ground_94 : decode cX11_ground 94 = .ok (.invokestatic 148, 3) := by decide +kernel
theorem dX11_ground_97 : decode cX11_ground 97 = .ok (.ireturn, 1) := by decide +kernel
theorem dX11_ground_98 : decode cX11_ground 98 = .ok (.iconst (-1), 1) := by decide +kernel
theorem dX11_ground_99 : decode cX11_ground 99 = .ok (.ireturn, 1) := by decide +kernel
theorem dX11_feed_0 : decode cX11_feed 0 = .ok (.iload_n 1, 1) := by decide +kernel
theorem dX11_feed_1 : decode cX11_feed 1 = .ok (.invokestatic 152, 3) := by decide +kernel
theorem dX11_feed_4 : decode cX11_feed 4 = .ok (.iload_n 2, 1) := by decide +kernel
theorem dX11_feed_5 : decode cX11_feed 5 = .ok (.invokestatic 152, 3) := by decide +kernel
theorem dX11_feed_8 : decode cX11_feed 8 = .ok (.iadd, 1) := by decide +kernel
theorem dX11_feed_9 : decode cX11_feed 9 = .ok (.iload_n 3, 1) := by decide +kernel
theorem dX11_feed_10 : decode cX11_feed 10 = .ok (.invokestatic 152, 3) := by decide +kernel
theorem dX11_feed_13 : decode cX11_feed 13 = .ok (.iadd, 1) := by decide +kernel
theorem dX11_feed_14 : decode cX11_feed 14 = .ok (.iload 4, 2) := by decide +kernel
theorem dX11_feed_16 : decode cX11_feed 16 = .ok (.invokestatic 152, 3) := by decide +kernel
theorem dX11_feed_19 : decode cX11_feed 19 = .ok (.iadd, 1) := by decide +kernel
theorem dX11_feed_20 : decode cX11_feed 20 = .ok (.iload 5, 2) := by decide +kernel
theorem dX11_feed_22 : decode cX11_feed 22 = .ok (.invokestatic 152, 3) := by decide +kernel
theorem dX11_feed_25 : decode cX11_feed 25 = .ok (.iadd, 1) := by decide +kernel
theorem dX11_feed_26 : decode cX11_feed 26 = .ok (.istore 6, 2) := by decide +kernel
theorem dX11_feed_28 : decode cX11_feed 28 = .ok (.aload_n 0, 1) := by decide +kernel
theorem dX11_feed_29 : decode cX11_feed 29 = .ok (.getfield 25, 3) := by decide +kernel
theorem dX11_feed_32 : decode cX11_feed 32 = .ok (.getfield 156, 3) := by decide +kernel
theorem dX11_feed_35 : decode cX11_feed 35 = .ok (.iload 6, 2) := by decide +kernel
theorem dX11_feed_37 : decode cX11_feed 37 = .ok (.iadd, 1) := by decide +kernel
theorem dX11_feed_38 : decode cX11_feed 38 = .ok (.sipush 200, 3) := by decide +kernel
theorem dX11_feed_41 : decode cX11_feed 41 = .ok (.if_icmp .le 5, 3) := by decide +kernel
theorem dX11_feed_44 : decode cX11_feed 44 = .ok (.iconst (-1), 1) := by decide +kernel
theorem dX11_feed_45 : decode cX11_feed 45 = .ok (.ireturn, 1) := by decide +kernel
theorem dX11_feed_46 : decode cX11_feed 46 = .ok (.aload_n 0, 1) := by decide +kernel
theorem dX11_feed_47 : decode cX11_feed 47 = .ok (.getfield 25, 3) := by decide +kernel
theorem dX11_feed_50 : decode cX11_feed 50 = .ok (.iload_n 1, 1) := by decide +kernel
theorem dX11_feed_51 : decode cX11_feed 51 = .ok (.invokevirtual 159, 3) := by decide +kernel
theorem dX11_feed_54 : decode cX11_feed 54 = .ok (.aload_n 0, 1) := by decide +kernel
theorem dX11_feed_55 : decode cX11_feed 55 = .ok (.getfield 25, 3) := by decide +kernel
theorem dX11_feed_58 : decode cX11_feed 58 = .ok (.iload_n 2, 1) := by decide +kernel
theorem dX11_feed_59 : decode cX11_feed 59 = .ok (.invokevirtual 159, 3) := by decide +kernel
theorem dX11_feed_62 : decode cX11_feed 62 = .ok (.aload_n 0, 1) := by decide +kernel
theorem dX11_feed_63 : decode cX11_feed 63 = .ok (.getfield 25, 3) := by decide +kernel
theorem dX11_feed_66 : decode cX11_feed 66 = .ok (.iload_n 3, 1) := by decide +kernel
theorem dX11_feed_67 : decode cX11_feed 67 = .ok (.invokevirtual 159, 3) := by decide +kernel
theorem dX11_feed_70 : decode cX11_feed 70 = .ok (.aload_n 0, 1) := by decide +kernel
theorem dX11_feed_71 : decode cX11_feed 71 = .ok (.getfield 25, 3) := by decide +kernel
theorem dX11_feed_74 : decode cX11_feed 74 = .ok (.iload 4, 2) := by decide +kernel
theorem dX11_feed_76 : decode cX11_feed 76 = .ok (.invokevirtual 159, 3) := by decide +kernel
theorem dX11_feed_79 : decode cX11_feed 79 = .ok (.aload_n 0, 1) := by decide +kernel
theorem dX11_feed_80 : decode cX11_feed 80 = .ok (.getfield 25, 3) := by decide +kernel
theorem dX11_feed_83 : decode cX11_feed 83 = .ok (.iload 5, 2) := by decide +kernel
theorem dX11_feed_85 : decode cX11_feed 85 = .ok (.invokevirtual 159, 3) := by decide +kernel
theorem dX11_feed_88 : decode cX11_feed 88 = .ok (.aload_n 0, 1) := by decide +kernel
theorem dX11_feed_89 : decode cX11_feed 89 = .ok (.getfield 25, 3) := by decide +kernel
theorem dX11_feed_92 : decode cX11_feed 92 = .ok (.getfield 156, 3) := by decide +kernel
theorem dX11_feed_95 : decode cX11_feed 95 = .ok (.ireturn, 1) := by decide +kernel
theorem dX11_end_0 : decode cX11_end 0 = .ok (.iload_n 1, 1) := by decide +kernel
theorem dX11_end_1 : decode cX11_end 1 = .ok (.iconst 0, 1) := by decide +kernel
theorem dX11_end_2 : decode cX11_end 2 = .ok (.aload_n 0, 1) := by decide +kernel
theorem dX11_end_3 : decode cX11_end 3 = .ok (.getfield 25, 3) := by decide +kernel
theorem dX11_end_6 : decode cX11_end 6 = .ok (.getfield 156, 3) := by decide +kernel
theorem dX11_end_9 : decode cX11_end 9 = .ok (.invokestatic 92, 3) := by decide +kernel
theorem dX11_end_12 : decode cX11_end 12 = .ok (.ifCond .ne 5, 3) := by decide +kernel
theorem dX11_end_15 : decode cX11_end 15 = .ok (.iconst 0, 1) := by decide +kernel
theorem dX11_end_16 : decode cX11_end 16 = .ok (.ireturn, 1) := by decide +kernel
theorem dX11_end_17 : decode cX11_end 17 = .ok (.aload_n 0, 1) := by decide +kernel
theorem dX11_end_18 : decode cX11_end 18 = .ok (.getfield 25, 3) := by decide +kernel
theorem dX11_end_21 : decode cX11_end 21 = .ok (.iload_n 1, 1) := by decide +kernel
theorem dX11_end_22 : decode cX11_end 22 = .ok (.putfield 156, 3) := by decide +kernel
theorem dX11_end_25 : decode cX11_end 25 = .ok (.iconst 1, 1) := by decide +kernel
theorem dX11_end_26 : decode cX11_end 26 = .ok (.ireturn, 1) := by decide +kernel
theorem dX11_fault_0 : decode cX11_fault 0 = .ok (.aload_n 0, 1) := by decide +kernel
theorem dX11_fault_1 : decode cX11_fault 1 = .ok (.getfield 25, 3) := by decide +kernel
theorem dX11_fault_4 : decode cX11_fault 4 = .ok (.invokevirtual 163, 3) := by decide +kernel
theorem dX11_fault_7 : decode cX11_fault 7 = .ok (.ireturn, 1) := by decide +kernel
theorem dX11_rules_0 : decode cX11_rules 0 = .ok (.aload_n 0, 1) := by decide +kernel
theorem dX11_rules_1 : decode cX11_rules 1 = .ok (.getfield 25, 3) := by decide +kernel
theorem dX11_rules_4 : decode cX11_rules 4 = .ok (.invokevirtual 163, 3) := by decide +kernel
theorem dX11_rules_7 : decode cX11_rules 7 = .ok (.iconst (-1), 1) := by decide +kernel
theorem dX11_rules_8 : decode cX11_rules 8 = .ok (.if_icmp .eq 5, 3) := by decide +kernel
theorem dX11_rules_11 : decode cX11_rules 11 = .ok (.iconst 0, 1) := by decide +kernel
theorem dX11_rules_12 : decode cX11_rules 12 = .ok (.ireturn, 1) := by decide +kernel
theorem dX11_rules_13 : decode cX11_rules 13 = .ok (.aload_n 0, 1) := by decide +kernel
theorem dX11_rules_14 : decode cX11_rules 14 = .ok (.getfield 32, 3) := by decide +kernel
theorem dX11_rules_17 : decode cX11_rules 17 = .ok (.aload_n 0, 1) := by decide +kernel
theorem dX11_rules_18 : decode cX11_rules 18 = .ok (.getfield 25, 3) := by decide +kernel
theorem dX11_rules_21 : decode cX11_rules 21 = .ok (.invokevirtual 167, 3) := by decide +kernel
theorem dX11_rules_24 : decode cX11_rules 24 = .ok (.aload_n 0, 1) := by decide +kernel
theorem dX11_rules_25 : decode cX11_rules 25 = .ok (.getfield 25, 3) := by decide +kernel
theorem dX11_rules_28 : decode cX11_rules 28 = .ok (.iconst 0, 1) := by decide +kernel
theorem dX11_rules_29 : decode cX11_rules 29 = .ok (.putfield 156, 3) := by decide +kernel
theorem dX11_rules_32 : decode cX11_rules 32 = .ok (.iconst 1, 1) := by decide +kernel
theorem dX11_rules_33 : decode cX11_rules 33 = .ok (.ireturn, 1) := by decide +kernel
theorem dX11_water_0 : decode cX11_water 0 = .ok (.iload_n 1, 1) := by decide +kernel
theorem dX11_water_1 : decode cX11_water 1 = .ok (.iconst 0, 1) := by decide +kernel
theorem dX11_water_2 : decode cX11_water 2 = .ok (.bipush 9, 2) := by decide +kernel
theorem dX11_water_4 : decode cX11_water 4 = .ok (.invokestatic 92, 3) := by decide +kernel
theorem dX11_water_7 : decode cX11_water 7 = .ok (.ifCond .ne 5, 3) := by decide +kernel
theorem dX11_water_10 : decode cX11_water 10 = .ok (.iconst 0, 1) := by decide +kernel
theorem dX11_water_11 : decode cX11_water 11 = .ok (.ireturn, 1) := by decide +kernel
theorem dX11_water_12 : decode cX11_water 12 = .ok (.aload_n 0, 1) := by decide +kernel
theorem dX11_water_13 : decode cX11_water 13 = .ok (.getfield 39, 3) := by decide +kernel
theorem dX11_water_16 : decode cX11_water 16 = .ok (.iload_n 1, 1) := by decide +kernel
theorem dX11_water_17 : decode cX11_water 17 = .ok (.putfield 171, 3) := by decide +kernel
theorem dX11_water_20 : decode cX11_water 20 = .ok (.iconst 1, 1) := by decide +kernel
theorem dX11_water_21 : decode cX11_water 21 = .ok (.ireturn, 1) := by decide +kernel
theorem dX11_gap_0 : decode cX11_gap 0 = .ok (.iload_n 1, 1) := by decide +kernel
theorem dX11_gap_1 : decode cX11_gap 1 = .ok (.iconst 1, 1) := by decide +kernel
theorem dX11_gap_2 : decode cX11_gap 2 = .ok (.bipush 30, 2) := by decide +kernel
theorem dX11_gap_4 : decode cX11_gap 4 = .ok (.invokestatic 92, 3) := by decide +kernel
theorem dX11_gap_7 : decode cX11_gap 7 = .ok (.ifCond .ne 5, 3) := by decide +kernel
theorem dX11_gap_10 : decode cX11_gap 10 = .ok (.iconst 0, 1) := by decide +kernel
theorem dX11_gap_11 : decode cX11_gap 11 = .ok (.ireturn, 1) := by decide +kernel
theorem dX11_gap_12 : decode cX11_gap 12 = .ok (.aload_n 0, 1) := by decide +kernel
theorem dX11_gap_13 : decode cX11_gap 13 = .ok (.getfield 39, 3) := by decide +kernel
theorem dX11_gap_16 : decode cX11_gap 16 = .ok (.iload_n 1, 1) := by decide +kernel
theorem dX11_gap_17 : decode cX11_gap 17 = .ok (.putfield 174, 3) := by decide +kernel
theorem dX11_gap_20 : decode cX11_gap 20 = .ok (.iconst 1, 1) := by decide +kernel
theorem dX11_gap_21 : decode cX11_gap 21 = .ok (.ireturn, 1) := by decide +kernel
theorem dX11_charge_0 : decode cX11_charge 0 = .ok (.iload_n 1, 1) := by decide +kernel
theorem dX11_charge_1 : decode cX11_charge 1 = .ok (.iconst 0, 1) := by decide +kernel
theorem dX11_charge_2 : decode cX11_charge 2 = .ok (.sipush 5000, 3) := by decide +kernel
theorem dX11_charge_5 : decode cX11_charge 5 = .ok (.invokestatic 92, 3) := by decide +kernel
theorem dX11_charge_8 : decode cX11_charge 8 = .ok (.ifCond .eq 48, 3) := by decide +kernel
theorem dX11_charge_11 : decode cX11_charge 11 = .ok (.iload_n 2, 1) := by decide +kernel
theorem dX11_charge_12 : decode cX11_charge 12 = .ok (.iconst 0, 1) := by decide +kernel
theorem dX11_charge_13 : decode cX11_charge 13 = .ok (.sipush 5000, 3) := by decide +kernel
theorem dX11_charge_16 : decode cX11_charge 16 = .ok (.invokestatic 92, 3) := by decide +kernel
theorem dX11_charge_19 : decode cX11_charge 19 = .ok (.ifCond .eq 37, 3) := by decide +kernel
theorem dX11_charge_22 : decode cX11_charge 22 = .ok (.iload_n 1, 1) := by decide +kernel
theorem dX11_charge_23 : decode cX11_charge 23 = .ok (.iload_n 2, 1) := by decide +kernel
theorem dX11_charge_24 : decode cX11_charge 24 = .ok (.iadd, 1) := by decide +kernel
theorem dX11_charge_25 : decode cX11_charge 25 = .ok (.ifCond .eq 31, 3) := by decide +kernel
theorem dX11_charge_28 : decode cX11_charge 28 = .ok (.iload_n 1, 1) := by decide +kernel
theorem dX11_charge_29 : decode cX11_charge 29 = .ok (.aload_n 0, 1) := by decide +kernel
theorem dX11_charge_30 : decode cX11_charge 30 = .ok (.getfield 18, 3) := by decide +kernel
theorem dX11_charge_33 : decode cX11_charge 33 = .ok (.getfield 146, 3) := by decide +kernel
theorem dX11_charge_36 : decode cX11_charge 36 = .ok (.invokestatic 177, 3) := by decide +kernel
theorem dX11_charge_39 : decode cX11_charge 39 = .ok (.if_icmp .gt 17, 3) := by decide +kernel
theorem dX11_charge_42 : decode cX11_charge 42 = .ok (.iload_n 2, 1) := by decide +kernel
theorem dX11_charge_43 : decode cX11_charge 43 = .ok (.aload_n 0, 1) := by decide +kernel
theorem dX11_charge_44 : decode cX11_charge 44 = .ok (.getfield 18, 3) := by decide +kernel
theorem dX11_charge_47 : decode cX11_charge 47 = .ok (.getfield 181, 3) := by decide +kernel
theorem dX11_charge_50 : decode cX11_charge 50 = .ok (.invokestatic 177, 3) := by decide +kernel
theorem dX11_charge_53 : decode cX11_charge 53 = .ok (.if_icmp .le 5, 3) := by decide +kernel
theorem dX11_charge_56 : decode cX11_charge 56 = .ok (.iconst 0, 1) := by decide +kernel
theorem dX11_charge_57 : decode cX11_charge 57 = .ok (.ireturn, 1) := by decide +kernel
theorem dX11_charge_58 : decode cX11_charge 58 = .ok (.aload_n 0, 1) := by decide +kernel
theorem dX11_charge_59 : decode cX11_charge 59 = .ok (.getfield 79, 3) := by decide +kernel
theorem dX11_charge_62 : decode cX11_charge 62 = .ok (.iload_n 1, 1) := by decide +kernel
theorem dX11_charge_63 : decode cX11_charge 63 = .ok (.aload_n 0, 1) := by decide +kernel
theorem dX11_charge_64 : decode cX11_charge 64 = .ok (.getfield 18, 3) := by decide +kernel
theorem dX11_charge_67 : decode cX11_charge 67 = .ok (.getfield 146, 3) := by decide +kernel
theorem dX11_charge_70 : decode cX11_charge 70 = .ok (.aload_n 0, 1) := by decide +kernel
theorem dX11_charge_71 : decode cX11_charge 71 = .ok (.getfield 39, 3) := by decide +kernel
theorem dX11_charge_74 : decode cX11_charge 74 = .ok (.getfield 184, 3) := by decide +kernel
theorem dX11_charge_77 : decode cX11_charge 77 = .ok (.invokevirtual 185, 3) := by decide +kernel
theorem dX11_charge_80 : decode cX11_charge 80 = .ok (.aload_n 0, 1) := by decide +kernel
theorem dX11_charge_81 : decode cX11_charge 81 = .ok (.getfield 79, 3) := by decide +kernel
theorem dX11_charge_84 : decode cX11_charge 84 = .ok (.iload_n 2, 1) := by decide +kernel
theorem dX11_charge_85 : decode cX11_charge 85 = .ok (.aload_n 0, 1) := by decide +kernel
theorem dX11_charge_86 : decode cX11_charge 86 = .ok (.getfield 18, 3) := by decide +kernel
theorem dX11_charge_89 : decode cX11_charge 89 = .ok (.getfield 181, 3) := by decide +kernel
theorem dX11_charge_92 : decode cX11_charge 92 = .ok (.aload_n 0, 1) := by decide +kernel
theorem dX11_charge_93 : decode cX11_charge 93 = .ok (.getfield 39, 3) := by decide +kernel
theorem dX11_charge_96 : decode cX11_charge 96 = .ok (.getfield 189, 3) := by decide +kernel
theorem dX11_charge_99 : decode cX11_charge 99 = .ok (.invokevirtual 185, 3) := by decide +kernel
theorem dX11_charge_102 : decode cX11_charge 102 = .ok (.aload_n 0, 1) := by decide +kernel
theorem dX11_charge_103 : decode cX11_charge 103 = .ok (.getfield 39, 3) := by decide +kernel
theorem dX11_charge_106 : decode cX11_charge 106 = .ok (.dup, 1) := by decide +kernel
theorem dX11_charge_107 : decode cX11_charge 107 = .ok (.getfield 192, 3) := by decide +kernel
theorem dX11_charge_110 : decode cX11_charge 110 = .ok (.iload_n 1, 1) := by decide +kernel
theorem dX11_charge_111 : decode cX11_charge 111 = .ok (.iadd, 1) := by decide +kernel
theorem dX11_charge_112 : decode cX11_charge 112 = .ok (.putfield 192, 3) := by decide +kernel
theorem dX11_charge_115 : decode cX11_charge 115 = .ok (.aload_n 0, 1) := by decide +kernel
theorem dX11_charge_116 : decode cX11_charge 116 = .ok (.getfield 39, 3) := by decide +kernel
theorem dX11_charge_119 : decode cX11_charge 119 = .ok (.dup, 1) := by decide +kernel
theorem dX11_charge_120 : decode cX11_charge 120 = .ok (.getfield 195, 3) := by decide +kernel
theorem dX11_charge_123 : decode cX11_charge 123 = .ok (.iload_n 2, 1) := by decide +kernel
theorem dX11_charge_124 : decode cX11_charge 124 = .ok (.iadd, 1) := by decide +kernel
theorem dX11_charge_125 : decode cX11_charge 125 = .ok (.putfield 195, 3) := by decide +kernel
theorem dX11_charge_128 : decode cX11_charge 128 = .ok (.iconst 1, 1) := by decide +kernel
theorem dX11_charge_129 : decode cX11_charge 129 = .ok (.ireturn, 1) := by decide +kernel
theorem dX11_blow_0 : decode cX11_blow 0 = .ok (.iload_n 1, 1) := by decide +kernel
theorem dX11_blow_1 : decode cX11_blow 1 = .ok (.iconst 0, 1) := by decide +kernel
theorem dX11_blow_2 : decode cX11_blow 2 = .ok (.sipush 2000, 3) := by decide +kernel
theorem dX11_blow_5 : decode cX11_blow 5 = .ok (.invokestatic 92, 3) := by decide +kernel
theorem dX11_blow_8 : decode cX11_blow 8 = .ok (.ifCond .eq 18, 3) := by decide +kernel
theorem dX11_blow_11 : decode cX11_blow 11 = .ok (.aload_n 0, 1) := by decide +kernel
theorem dX11_blow_12 : decode cX11_blow 12 = .ok (.getfield 39, 3) := by decide +kernel
theorem dX11_blow_15 : decode cX11_blow 15 = .ok (.getfield 198, 3) := by decide +kernel
theorem dX11_blow_18 : decode cX11_blow 18 = .ok (.iload_n 1, 1) := by decide +kernel
theorem dX11_blow_19 : decode cX11_blow 19 = .ok (.iadd, 1) := by decide +kernel
theorem dX11_blow_20 : decode cX11_blow 20 = .ok (.sipush 20000, 3) := by decide +kernel
theorem dX11_blow_23 : decode cX11_blow 23 = .ok (.if_icmp .le 5, 3) := by decide +kernel
theorem dX11_blow_26 : decode cX11_blow 26 = .ok (.iconst (-1), 1) := by decide +kernel
theorem dX11_blow_27 : decode cX11_blow 27 = .ok (.ireturn, 1) := by decide +kernel
theorem dX11_blow_28 : decode cX11_blow 28 = .ok (.iconst 0, 1) := by decide +kernel
theorem dX11_blow_29 : decode cX11_blow 29 = .ok (.istore_n 2, 1) := by decide +kernel
theorem dX11_blow_30 : decode cX11_blow 30 = .ok (.iload_n 2, 1) := by decide +kernel
theorem dX11_blow_31 : decode cX11_blow 31 = .ok (.iload_n 1, 1) := by decide +kernel
theorem dX11_blow_32 : decode cX11_blow 32 = .ok (.if_icmp .ge 24, 3) := by decide +kernel
theorem dX11_blow_35 : decode cX11_blow 35 = .ok (.aload_n 0, 1) := by decide +kernel
theorem dX11_blow_36 : decode cX11_blow 36 = .ok (.getfield 39, 3) := by decide +kernel
theorem dX11_blow_39 : decode cX11_blow 39 = .ok (.aload_n 0, 1) := by decide +kernel
theorem dX11_blow_40 : decode cX11_blow 40 = .ok (.getfield 32, 3) := by decide +kernel
theorem dX11_blow_43 : decode cX11_blow 43 = .ok (.aload_n 0, 1) := by decide +kernel
theorem dX11_blow_44 : decode cX11_blow 44 = .ok (.getfield 79, 3) := by decide +kernel
theorem dX11_blow_47 : decode cX11_blow 47 = .ok (.invokevirtual 201, 3) := by decide +kernel
theorem dX11_blow_50 : decode cX11_blow 50 = .ok (.iinc 2 1, 3) := by decide +kernel
theorem dX11_blow_53 : decode cX11_blow 53 = .ok (.goto (-23), 3) := by decide +kernel
theorem dX11_blow_56 : decode cX11_blow 56 = .ok (.aload_n 0, 1) := by decide +kernel
theorem dX11_blow_57 : decode cX11_blow 57 = .ok (.getfield 39, 3) := by decide +kernel
theorem dX11_blow_60 : decode cX11_blow 60 = .ok (.getfield 205, 3) := by decide +kernel
theorem dX11_blow_63 : decode cX11_blow 63 = .ok (.ireturn, 1) := by decide +kernel
theorem dX11_furnace_0 : decode cX11_furnace 0 = .ok (.iload_n 1, 1) := by decide +kernel
theorem dX11_furnace_1 : decode cX11_furnace 1 = .ok (.tableswitch 126 0 8 #[51, 59, 67, 75, 83, 91, 102, 110, 118], 51) := by decide +kernel
theorem dX11_furnace_52 : decode cX11_furnace 52 = .ok (.aload_n 0, 1) := by decide +kernel
theorem dX11_furnace_53 : decode cX11_furnace 53 = .ok (.getfield 39, 3) := by decide +kernel
theorem dX11_furnace_56 : decode cX11_furnace 56 = .ok (.getfield 205, 3) := by decide +kernel
theorem dX11_furnace_59 : decode cX11_furnace 59 = .ok (.ireturn, 1) := by decide +kernel
theorem dX11_furnace_60 : decode cX11_furnace 60 = .ok (.aload_n 0, 1) := by decide +kernel
theorem dX11_furnace_61 : decode cX11_furnace 61 = .ok (.getfield 39, 3) := by decide +kernel
theorem dX11_furnace_64 : decode cX11_furnace 64 = .ok (.getfield 208, 3) := by decide +kernel
theorem dX11_furnace_67 : decode cX11_furnace 67 = .ok (.ireturn, 1) := by decide +kernel
theorem dX11_furnace_68 : decode cX11_furnace 68 = .ok (.aload_n 0, 1) := by decide +kernel
theorem dX11_furnace_69 : decode cX11_furnace 69 = .ok (.getfield 39, 3) := by decide +kernel
theorem dX11_furnace_72 : decode cX11_furnace 72 = .ok (.getfield 211, 3) := by decide +kernel
theorem dX11_furnace_75 : decode cX11_furnace 75 = .ok (.ireturn, 1) := by decide +kernel
theorem dX11_furnace_76 : decode cX11_furnace 76 = .ok (.aload_n 0, 1) := by decide +kernel
theorem dX11_furnace_77 : decode cX11_furnace 77 = .ok (.getfield 39, 3) := by decide +kernel
theorem dX11_furnace_80 : decode cX11_furnace 80 = .ok (.getfield 192, 3) := by decide +kernel
theorem dX11_furnace_83 : decode cX11_furnace 83 = .ok (.ireturn, 1) := by decide +kernel
theorem dX11_furnace_84 : decode cX11_furnace 84 = .ok (.aload_n 0, 1) := by decide +kernel
theorem dX11_furnace_85 : decode cX11_furnace 85 = .ok (.getfield 39, 3) := by decide +kernel
theorem dX11_furnace_88 : decode cX11_furnace 88 = .ok (.getfield 195, 3) := by decide +kernel
theorem dX11_furnace_91 : decode cX11_furnace 91 = .ok (.ireturn, 1) := by decide +kernel
theorem dX11_furnace_92 : decode cX11_furnace 92 = .ok (.aload_n 0, 1) := by decide +kernel
theorem dX11_furnace_93 : decode cX11_furnace 93 = .ok (.getfield 39, 3) := by decide +kernel
theorem dX11_furnace_96 : decode cX11_furnace 96 = .ok (.getfield 214, 3) := by decide +kernel
theorem dX11_furnace_99 : decode cX11_furnace 99 = .ok (.invokestatic 177, 3) := by decide +kernel
theorem dX11_furnace_102 : decode cX11_furnace 102 = .ok (.ireturn, 1) := by decide +kernel
theorem dX11_furnace_103 : decode cX11_furnace 103 = .ok (.aload_n 0, 1) := by decide +kernel
theorem dX11_furnace_104 : decode cX11_furnace 104 = .ok (.getfield 39, 3) := by decide +kernel
theorem dX11_furnace_107 : decode cX11_furnace 107 = .ok (.getfield 198, 3) := by decide +kernel
theorem dX11_furnace_110 : decode cX11_furnace 110 = .ok (.ireturn, 1) := by decide +kernel
theorem dX11_furnace_111 : decode cX11_furnace 111 = .ok (.aload_n 0, 1) := by decide +kernel
theorem dX11_furnace_112 : decode cX11_furnace 112 = .ok (.getfield 39, 3) := by decide +kernel
theorem dX11_furnace_115 : decode cX11_furnace 115 = .ok (.getfield 217, 3) := by decide +kernel
theorem dX11_furnace_118 : decode cX11_furnace 118 = .ok (.ireturn, 1) := by decide +kernel
theorem dX11_furnace_119 : decode cX11_furnace 119 = .ok (.aload_n 0, 1) := by decide +kernel
theorem dX11_furnace_120 : decode cX11_furnace 120 = .ok (.getfield 39, 3) := by decide +kernel
theorem dX11_furnace_123 : decode cX11_furnace 123 = .ok (.getfield 220, 3) := by decide +kernel
theorem dX11_furnace_126 : decode cX11_furnace 126 = .ok (.ireturn, 1) := by decide +kernel
theorem dX11_furnace_127 : decode cX11_furnace 127 = .ok (.iconst (-1), 1) := by decide +kernel
theorem dX11_furnace_128 : decode cX11_furnace 128 = .ok (.ireturn, 1) := by decide +kernel
theorem dX11_draw_0 : decode cX11_draw 0 = .ok (.aload_n 0, 1) := by decide +kernel
theorem dX11_draw_1 : decode cX11_draw 1 = .ok (.getfield 223, 3) := by decide +kernel
theorem dX11_draw_4 : decode cX11_draw 4 = .ok (.aload_n 0, 1) := by decide +kernel
theorem dX11_draw_5 : decode cX11_draw 5 = .ok (.getfield 45, 3) := by decide +kernel
theorem dX11_draw_8 : decode cX11_draw 8 = .ok (.arraylength, 1) := by decide +kernel
theorem dX11_draw_9 : decode cX11_draw 9 = .ok (.if_icmp .ge 16, 3) := by decide +kernel
theorem dX11_draw_12 : decode cX11_draw 12 = .ok (.aload_n 0, 1) := by decide +kernel
theorem dX11_draw_13 : decode cX11_draw 13 = .ok (.getfield 39, 3) := by decide +kernel
theorem dX11_draw_16 : decode cX11_draw 16 = .ok (.getfield 214, 3) := by decide +kernel
theorem dX11_draw_19 : decode cX11_draw 19 = .ok (.invokestatic 177, 3) := by decide +kernel
theorem dX11_draw_22 : decode cX11_draw 22 = .ok (.ifCond .ne 5, 3) := by decide +kernel
theorem dX11_draw_25 : decode cX11_draw 25 = .ok (.iconst (-1), 1) := by decide +kernel
theorem dX11_draw_26 : decode cX11_draw 26 = .ok (.ireturn, 1) := by decide +kernel
theorem dX11_draw_27 : decode cX11_draw 27 = .ok (.new 43, 3) := by decide +kernel
theorem dX11_draw_30 : decode cX11_draw 30 = .ok (.dup, 1) := by decide +kernel
theorem dX11_draw_31 : decode cX11_draw 31 = .ok (.aload_n 0, 1) := by decide +kernel
theorem dX11_draw_32 : decode cX11_draw 32 = .ok (.getfield 39, 3) := by decide +kernel
theorem dX11_draw_35 : decode cX11_draw 35 = .ok (.invokevirtual 226, 3) := by decide +kernel
theorem dX11_draw_38 : decode cX11_draw 38 = .ok (.aload_n 0, 1) := by decide +kernel
theorem dX11_draw_39 : decode cX11_draw 39 = .ok (.getfield 110, 3) := by decide +kernel
theorem dX11_draw_42 : decode cX11_draw 42 = .ok (.invokespecial 229, 3) := by decide +kernel
theorem dX11_draw_45 : decode cX11_draw 45 = .ok (.astore_n 1, 1) := by decide +kernel
theorem dX11_draw_46 : decode cX11_draw 46 = .ok (.aload_n 1, 1) := by decide +kernel
theorem dX11_draw_47 : decode cX11_draw 47 = .ok (.aload_n 0, 1) := by decide +kernel
theorem dX11_draw_48 : decode cX11_draw 48 = .ok (.iconst 0, 1) := by decide +kernel
theorem dX11_draw_49 : decode cX11_draw 49 = .ok (.invokevirtual 232, 3) := by decide +kernel
theorem dX11_draw_52 : decode cX11_draw 52 = .ok (.aload_n 0, 1) := by decide +kernel
theorem dX11_draw_53 : decode cX11_draw 53 = .ok (.iconst 1, 1) := by decide +kernel
theorem dX11_draw_54 : decode cX11_draw 54 = .ok (.invokevirtual 232, 3) := by decide +kernel
theorem dX11_draw_57 : decode cX11_draw 57 = .ok (.invokevirtual 236, 3) := by decide +kernel
theorem dX11_draw_60 : decode cX11_draw 60 = .ok (.aload_n 0, 1) := by decide +kernel
theorem dX11_draw_61 : decode cX11_draw 61 = .ok (.getfield 39, 3) := by decide +kernel
theorem dX11_draw_64 : decode cX11_draw 64 = .ok (.getfield 214, 3) := by decide +kernel
theorem dX11_draw_67 : decode cX11_draw 67 = .ok (.iconst 0, 1) := by decide +kernel
theorem dX11_draw_68 : decode cX11_draw 68 = .ok (.aload_n 1, 1) := by decide +kernel
theorem dX11_draw_69 : decode cX11_draw 69 = .ok (.getfield 239, 3) := by decide +kernel
theorem dX11_draw_72 : decode cX11_draw 72 = .ok (.iconst 0, 1) := by decide +kernel
theorem dX11_draw_73 : decode cX11_draw 73 = .ok (.bipush 12, 2) := by decide +kernel
theorem dX11_draw_75 : decode cX11_draw 75 = .ok (.invokestatic 240, 3) := by decide +kernel
theorem dX11_draw_78 : decode cX11_draw 78 = .ok (.aload_n 0, 1) := by decide +kernel
theorem dX11_draw_79 : decode cX11_draw 79 = .ok (.getfield 79, 3) := by decide +kernel
theorem dX11_draw_82 : decode cX11_draw 82 = .ok (.aload_n 0, 1) := by decide +kernel
theorem dX11_draw_83 : decode cX11_draw 83 = .ok (.getfield 39, 3) := by decide +kernel
theorem dX11_draw_86 : decode cX11_draw 86 = .ok (.getfield 246, 3) := by decide +kernel
theorem dX11_draw_89 : decode cX11_draw 89 = .ok (.aload_n 0, 1) := by decide +kernel
theorem dX11_draw_90 : decode cX11_draw 90 = .ok (.getfield 39, 3) := by decide +kernel
theorem dX11_draw_93 : decode cX11_draw 93 = .ok (.getfield 189, 3) := by decide +kernel
theorem dX11_draw_96 : decode cX11_draw 96 = .ok (.aload_n 1, 1) := by decide +kernel
theorem dX11_draw_97 : decode cX11_draw 97 = .ok (.getfield 249, 3) := by decide +kernel
theorem dX11_draw_100 : decode cX11_draw 100 = .ok (.invokevirtual 185, 3) := by decide +kernel
theorem dX11_draw_103 : decode cX11_draw 103 = .ok (.aload_n 0, 1) := by decide +kernel
theorem dX11_draw_104 : decode cX11_draw 104 = .ok (.dup, 1) := by decide +kernel
theorem dX11_draw_105 : decode cX11_draw 105 = .ok (.getfield 250, 3) := by decide +kernel
theorem dX11_draw_108 : decode cX11_draw 108 = .ok (.aload_n 0, 1) := by decide +kernel
theorem dX11_draw_109 : decode cX11_draw 109 = .ok (.getfield 39, 3) := by decide +kernel
theorem dX11_draw_112 : decode cX11_draw 112 = .ok (.getfield 192, 3) := by decide +kernel
theorem dX11_draw_115 : decode cX11_draw 115 = .ok (.iadd, 1) := by decide +kernel
theorem dX11_draw_116 : decode cX11_draw 116 = .ok (.putfield 250, 3) := by decide +kernel
theorem dX11_draw_119 : decode cX11_draw 119 = .ok (.aload_n 0, 1) := by decide +kernel
theorem dX11_draw_120 : decode cX11_draw 120 = .ok (.getfield 39, 3) := by decide +kernel
theorem dX11_draw_123 : decode cX11_draw 123 = .ok (.invokevirtual 253, 3) := by decide +kernel
theorem dX11_draw_126 : decode cX11_draw 126 = .ok (.aload_n 0, 1) := by decide +kernel
theorem dX11_draw_127 : decode cX11_draw 127 = .ok (.getfield 45, 3) := by decide +kernel
theorem dX11_draw_130 : decode cX11_draw 130 = .ok (.aload_n 0, 1) := by decide +kernel
theorem dX11_draw_131 : decode cX11_draw 131 = .ok (.getfield 223, 3) := by decide +kernel
theorem dX11_draw_134 : decode cX11_draw 134 = .ok (.aload_n 1, 1) := by decide +kernel
theorem dX11_draw_135 : decode cX11_draw 135 = .ok (.aastore, 1) := by decide +kernel
theorem dX11_draw_136 : decode cX11_draw 136 = .ok (.aload_n 0, 1) := by decide +kernel
theorem dX11_draw_137 : decode cX11_draw 137 = .ok (.dup, 1) := by decide +kernel
theorem dX11_draw_138 : decode cX11_draw 138 = .ok (.getfield 223, 3) := by decide +kernel
theorem dX11_draw_141 : decode cX11_draw 141 = .ok (.dup_x1, 1) := by decide +kernel
theorem dX11_draw_142 : decode cX11_draw 142 = .ok (.iconst 1, 1) := by decide +kernel
theorem dX11_draw_143 : decode cX11_draw 143 = .ok (.iadd, 1) := by decide +kernel
theorem dX11_draw_144 : decode cX11_draw 144 = .ok (.putfield 223, 3) := by decide +kernel
theorem dX11_draw_147 : decode cX11_draw 147 = .ok (.ireturn, 1) := by decide +kernel
theorem dX11_ironInBloom_0 : decode cX11_ironInBloom 0 = .ok (.lconst 0, 1) := by decide +kernel
theorem dX11_ironInBloom_1 : decode cX11_ironInBloom 1 = .ok (.lstore_n 2, 1) := by decide +kernel
theorem dX11_ironInBloom_2 : decode cX11_ironInBloom 2 = .ok (.iconst 0, 1) := by decide +kernel
theorem dX11_ironInBloom_3 : decode cX11_ironInBloom 3 = .ok (.istore 4, 2) := by decide +kernel
theorem dX11_ironInBloom_5 : decode cX11_ironInBloom 5 = .ok (.iload 4, 2) := by decide +kernel
theorem dX11_ironInBloom_7 : decode cX11_ironInBloom 7 = .ok (.aload_n 0, 1) := by decide +kernel
theorem dX11_ironInBloom_8 : decode cX11_ironInBloom 8 = .ok (.getfield 87, 3) := by decide +kernel
theorem dX11_ironInBloom_11 : decode cX11_ironInBloom 11 = .ok (.if_icmp .ge 57, 3) := by decide +kernel
theorem dX11_ironInBloom_14 : decode cX11_ironInBloom 14 = .ok (.aload_n 0, 1) := by decide +kernel
theorem dX11_ironInBloom_15 : decode cX11_ironInBloom 15 = .ok (.iload 4, 2) := by decide +kernel
theorem dX11_ironInBloom_17 : decode cX11_ironInBloom 17 = .ok (.invokevirtual 99, 3) := by decide +kernel
theorem dX11_ironInBloom_20 : decode cX11_ironInBloom 20 = .ok (.astore 5, 2) := by decide +kernel
theorem dX11_ironInBloom_22 : decode cX11_ironInBloom 22 = .ok (.aload 5, 2) := by decide +kernel
theorem dX11_ironInBloom_24 : decode cX11_ironInBloom 24 = .ok (.ifnull 38, 3) := by decide +kernel
theorem dX11_ironInBloom_27 : decode cX11_ironInBloom 27 = .ok (.lload_n 2, 1) := by decide +kernel
theorem dX11_ironInBloom_28 : decode cX11_ironInBloom 28 = .ok (.aload_n 0, 1) := by decide +kernel
theorem dX11_ironInBloom_29 : decode cX11_ironInBloom 29 = .ok (.getfield 39, 3) := by decide +kernel
theorem dX11_ironInBloom_32 : decode cX11_ironInBloom 32 = .ok (.getfield 214, 3) := by decide +kernel
theorem dX11_ironInBloom_35 : decode cX11_ironInBloom 35 = .ok (.iload 4, 2) := by decide +kernel
theorem dX11_ironInBloom_37 : decode cX11_ironInBloom 37 = .ok (.invokestatic 148, 3) := by decide +kernel
theorem dX11_ironInBloom_40 : decode cX11_ironInBloom 40 = .ok (.i2l, 1) := by decide +kernel
theorem dX11_ironInBloom_41 : decode cX11_ironInBloom 41 = .ok (.iload_n 1, 1) := by decide +kernel
theorem dX11_ironInBloom_42 : decode cX11_ironInBloom 42 = .ok (.ifCond .eq 11, 3) := by decide +kernel
theorem dX11_ironInBloom_45 : decode cX11_ironInBloom 45 = .ok (.aload 5, 2) := by decide +kernel
theorem dX11_ironInBloom_47 : decode cX11_ironInBloom 47 = .ok (.getfield 143, 3) := by decide +kernel
theorem dX11_ironInBloom_50 : decode cX11_ironInBloom 50 = .ok (.goto 8, 3) := by decide +kernel
theorem dX11_ironInBloom_53 : decode cX11_ironInBloom 53 = .ok (.aload 5, 2) := by decide +kernel
theorem dX11_ironInBloom_55 : decode cX11_ironInBloom 55 = .ok (.getfield 140, 3) := by decide +kernel
theorem dX11_ironInBloom_58 : decode cX11_ironInBloom 58 = .ok (.i2l, 1) := by decide +kernel
theorem dX11_ironInBloom_59 : decode cX11_ironInBloom 59 = .ok (.lmul, 1) := by decide +kernel
theorem dX11_ironInBloom_60 : decode cX11_ironInBloom 60 = .ok (.ladd, 1) := by decide +kernel
theorem dX11_ironInBloom_61 : decode cX11_ironInBloom 61 = .ok (.lstore_n 2, 1) := by decide +kernel
theorem dX11_ironInBloom_62 : decode cX11_ironInBloom 62 = .ok (.iinc 4 1, 3) := by decide +kernel
theorem dX11_ironInBloom_65 : decode cX11_ironInBloom 65 = .ok (.goto (-60), 3) := by decide +kernel
theorem dX11_ironInBloom_68 : decode cX11_ironInBloom 68 = .ok (.iload_n 1, 1) := by decide +kernel
theorem dX11_ironInBloom_69 : decode cX11_ironInBloom 69 = .ok (.ifCond .eq 13, 3) := by decide +kernel
theorem dX11_ironInBloom_72 : decode cX11_ironInBloom 72 = .ok (.lload_n 2, 1) := by decide +kernel
theorem dX11_ironInBloom_73 : decode cX11_ironInBloom 73 = .ok (.ldc2_w 256, 3) := by decide +kernel
theorem dX11_ironInBloom_76 : decode cX11_ironInBloom 76 = .ok (.ladd, 1) := by decide +kernel
theorem dX11_ironInBloom_77 : decode cX11_ironInBloom 77 = .ok (.lconst 1, 1) := by decide +kernel
theorem dX11_ironInBloom_78 : decode cX11_ironInBloom 78 = .ok (.lsub, 1) := by decide +kernel
theorem dX11_ironInBloom_79 : decode cX11_ironInBloom 79 = .ok (.goto 4, 3) := by decide +kernel
theorem dX11_ironInBloom_82 : decode cX11_ironInBloom 82 = .ok (.lload_n 2, 1) := by decide +kernel
theorem dX11_ironInBloom_83 : decode cX11_ironInBloom 83 = .ok (.ldc2_w 256, 3) := by decide +kernel
theorem dX11_ironInBloom_86 : decode cX11_ironInBloom 86 = .ok (.ldiv, 1) := by decide +kernel
theorem dX11_ironInBloom_87 : decode cX11_ironInBloom 87 = .ok (.l2i, 1) := by decide +kernel
theorem dX11_ironInBloom_88 : decode cX11_ironInBloom 88 = .ok (.ireturn, 1) := by decide +kernel
theorem dX11_forge_0 : decode cX11_forge 0 = .ok (.aload_n 0, 1) := by decide +kernel
theorem dX11_forge_1 : decode cX11_forge 1 = .ok (.iload_n 1, 1) := by decide +kernel
theorem dX11_forge_2 : decode cX11_forge 2 = .ok (.invokevirtual 258, 3) := by decide +kernel
theorem dX11_forge_5 : decode cX11_forge 5 = .ok (.astore_n 3, 1) := by decide +kernel
theorem dX11_forge_6 : decode cX11_forge 6 = .ok (.aload_n 3, 1) := by decide +kernel
theorem dX11_forge_7 : decode cX11_forge 7 = .ok (.ifnull 24, 3) := by decide +kernel
theorem dX11_forge_10 : decode cX11_forge 10 = .ok (.iload_n 2, 1) := by decide +kernel
theorem dX11_forge_11 : decode cX11_forge 11 = .ok (.iconst 1, 1) := by decide +kernel
theorem dX11_forge_12 : decode cX11_forge 12 = .ok (.bipush 9, 2) := by decide +kernel
theorem dX11_forge_14 : decode cX11_forge 14 = .ok (.invokestatic 92, 3) := by decide +kernel
theorem dX11_forge_17 : decode cX11_forge 17 = .ok (.ifCond .eq 14, 3) := by decide +kernel
theorem dX11_forge_20 : decode cX11_forge 20 = .ok (.aload_n 3, 1) := by decide +kernel
theorem dX11_forge_21 : decode cX11_forge 21 = .ok (.getfield 262, 3) := by decide +kernel
theorem dX11_forge_24 : decode cX11_forge 24 = .ok (.iload_n 2, 1) := by decide +kernel
theorem dX11_forge_25 : decode cX11_forge 25 = .ok (.iadd, 1) := by decide +kernel
theorem dX11_forge_26 : decode cX11_forge 26 = .ok (.bipush 9, 2) := by decide +kernel
theorem dX11_forge_28 : decode cX11_forge 28 = .ok (.if_icmp .le 5, 3) := by decide +kernel
theorem dX11_forge_31 : decode cX11_forge 31 = .ok (.iconst (-1), 1) := by decide +kernel
theorem dX11_forge_32 : decode cX11_forge 32 = .ok (.ireturn, 1) := by decide +kernel
theorem dX11_forge_33 : decode cX11_forge 33 = .ok (.iconst 0, 1) := by decide +kernel
theorem dX11_forge_34 : decode cX11_forge 34 = .ok (.istore 4, 2) := by decide +kernel
theorem dX11_forge_36 : decode cX11_forge 36 = .ok (.iload 4, 2) := by decide +kernel
theorem dX11_forge_38 : decode cX11_forge 38 = .ok (.iload_n 2, 1) := by decide +kernel
theorem dX11_forge_39 : decode cX11_forge 39 = .ok (.if_icmp .ge 13, 3) := by decide +kernel
theorem dX11_forge_42 : decode cX11_forge 42 = .ok (.aload_n 3, 1) := by decide +kernel
theorem dX11_forge_43 : decode cX11_forge 43 = .ok (.invokevirtual 265, 3) := by decide +kernel
theorem dX11_forge_46 : decode cX11_forge 46 = .ok (.iinc 4 1, 3) := by decide +kernel
theorem dX11_forge_49 : decode cX11_forge 49 = .ok (.goto (-13), 3) := by decide +kernel
theorem dX11_forge_52 : decode cX11_forge 52 = .ok (.aload_n 3, 1) := by decide +kernel
theorem dX11_forge_53 : decode cX11_forge 53 = .ok (.invokevirtual 268, 3) := by decide +kernel
theorem dX11_forge_56 : decode cX11_forge 56 = .ok (.ireturn, 1) := by decide +kernel
theorem dX11_bar_0 : decode cX11_bar 0 = .ok (.aload_n 0, 1) := by decide +kernel
theorem dX11_bar_1 : decode cX11_bar 1 = .ok (.iload_n 1, 1) := by decide +kernel
theorem dX11_bar_2 : decode cX11_bar 2 = .ok (.invokevirtual 258, 3) := by decide +kernel
theorem dX11_bar_5 : decode cX11_bar 5 = .ok (.astore_n 3, 1) := by decide +kernel
theorem dX11_bar_6 : decode cX11_bar 6 = .ok (.aload_n 3, 1) := by decide +kernel
theorem dX11_bar_7 : decode cX11_bar 7 = .ok (.ifnonnull 5, 3) := by decide +kernel
theorem dX11_bar_10 : decode cX11_bar 10 = .ok (.iconst (-1), 1) := by decide +kernel
theorem dX11_bar_11 : decode cX11_bar 11 = .ok (.ireturn, 1) := by decide +kernel
theorem dX11_bar_12 : decode cX11_bar 12 = .ok (.iload_n 2, 1) := by decide +kernel
theorem dX11_bar_13 : decode cX11_bar 13 = .ok (.tableswitch 84 0 6 #[43, 48, 53, 58, 63, 68, 76], 43) := by decide +kernel
theorem dX11_bar_56 : decode cX11_bar 56 = .ok (.aload_n 3, 1) := by decide +kernel
theorem dX11_bar_57 : decode cX11_bar 57 = .ok (.getfield 271, 3) := by decide +kernel
theorem dX11_bar_60 : decode cX11_bar 60 = .ok (.ireturn, 1) := by decide +kernel
theorem dX11_bar_61 : decode cX11_bar 61 = .ok (.aload_n 3, 1) := by decide +kernel
theorem dX11_bar_62 : decode cX11_bar 62 = .ok (.getfield 274, 3) := by decide +kernel
theorem dX11_bar_65 : decode cX11_bar 65 = .ok (.ireturn, 1) := by decide +kernel
theorem dX11_bar_66 : decode cX11_bar 66 = .ok (.aload_n 3, 1) := by decide +kernel
theorem dX11_bar_67 : decode cX11_bar 67 = .ok (.invokevirtual 268, 3) := by decide +kernel
theorem dX11_bar_70 : decode cX11_bar 70 = .ok (.ireturn, 1) := by decide +kernel
theorem dX11_bar_71 : decode cX11_bar 71 = .ok (.aload_n 3, 1) := by decide +kernel
theorem dX11_bar_72 : decode cX11_bar 72 = .ok (.getfield 262, 3) := by decide +kernel
theorem dX11_bar_75 : decode cX11_bar 75 = .ok (.ireturn, 1) := by decide +kernel
theorem dX11_bar_76 : decode cX11_bar 76 = .ok (.aload_n 3, 1) := by decide +kernel
theorem dX11_bar_77 : decode cX11_bar 77 = .ok (.getfield 277, 3) := by decide +kernel
theorem dX11_bar_80 : decode cX11_bar 80 = .ok (.ireturn, 1) := by decide +kernel
theorem dX11_bar_81 : decode cX11_bar 81 = .ok (.aload_n 3, 1) := by decide +kernel
theorem dX11_bar_82 : decode cX11_bar 82 = .ok (.getfield 239, 3) := by decide +kernel
theorem dX11_bar_85 : decode cX11_bar 85 = .ok (.invokestatic 177, 3) := by decide +kernel
theorem dX11_bar_88 : decode cX11_bar 88 = .ok (.ireturn, 1) := by decide +kernel
theorem dX11_bar_89 : decode cX11_bar 89 = .ok (.aload_n 3, 1) := by decide +kernel
theorem dX11_bar_90 : decode cX11_bar 90 = .ok (.getfield 249, 3) := by decide +kernel
theorem dX11_bar_93 : decode cX11_bar 93 = .ok (.invokestatic 177, 3) := by decide +kernel
theorem dX11_bar_96 : decode cX11_bar 96 = .ok (.ireturn, 1) := by decide +kernel
theorem dX11_bar_97 : decode cX11_bar 97 = .ok (.iconst (-1), 1) := by decide +kernel
theorem dX11_bar_98 : decode cX11_bar 98 = .ok (.ireturn, 1) := by decide +kernel
theorem dX11_part_0 : decode cX11_part 0 = .ok (.aload_n 0, 1) := by decide +kernel
theorem dX11_part_1 : decode cX11_part 1 = .ok (.iload_n 1, 1) := by decide +kernel
theorem dX11_part_2 : decode cX11_part 2 = .ok (.invokevirtual 258, 3) := by decide +kernel
theorem dX11_part_5 : decode cX11_part 5 = .ok (.astore_n 3, 1) := by decide +kernel
theorem dX11_part_6 : decode cX11_part 6 = .ok (.aload_n 3, 1) := by decide +kernel
theorem dX11_part_7 : decode cX11_part 7 = .ok (.ifnonnull 7, 3) := by decide +kernel
theorem dX11_part_10 : decode cX11_part 10 = .ok (.iconst 0, 1) := by decide +kernel
theorem dX11_part_11 : decode cX11_part 11 = .ok (.goto 11, 3) := by decide +kernel
theorem dX11_part_14 : decode cX11_part 14 = .ok (.aload_n 3, 1) := by decide +kernel
theorem dX11_part_15 : decode cX11_part 15 = .ok (.getfield 239, 3) := by decide +kernel
theorem dX11_part_18 : decode cX11_part 18 = .ok (.iload_n 2, 1) := by decide +kernel
theorem dX11_part_19 : decode cX11_part 19 = .ok (.invokestatic 148, 3) := by decide +kernel
theorem dX11_part_22 : decode cX11_part 22 = .ok (.ireturn, 1) := by decide +kernel
theorem dX11_burnt_0 : decode cX11_burnt 0 = .ok (.aload_n 0, 1) := by decide +kernel
theorem dX11_burnt_1 : decode cX11_burnt 1 = .ok (.iload_n 1, 1) := by decide +kernel
theorem dX11_burnt_2 : decode cX11_burnt 2 = .ok (.invokevirtual 258, 3) := by decide +kernel
theorem dX11_burnt_5 : decode cX11_burnt 5 = .ok (.astore_n 3, 1) := by decide +kernel
theorem dX11_burnt_6 : decode cX11_burnt 6 = .ok (.aload_n 3, 1) := by decide +kernel
theorem dX11_burnt_7 : decode cX11_burnt 7 = .ok (.ifnonnull 7, 3) := by decide +kernel
theorem dX11_burnt_10 : decode cX11_burnt 10 = .ok (.iconst 0, 1) := by decide +kernel
theorem dX11_burnt_11 : decode cX11_burnt 11 = .ok (.goto 11, 3) := by decide +kernel
theorem dX11_burnt_14 : decode cX11_burnt 14 = .ok (.aload_n 3, 1) := by decide +kernel
theorem dX11_burnt_15 : decode cX11_burnt 15 = .ok (.getfield 249, 3) := by decide +kernel
theorem dX11_burnt_18 : decode cX11_burnt 18 = .ok (.iload_n 2, 1) := by decide +kernel
theorem dX11_burnt_19 : decode cX11_burnt 19 = .ok (.invokestatic 148, 3) := by decide +kernel
theorem dX11_burnt_22 : decode cX11_burnt 22 = .ok (.ireturn, 1) := by decide +kernel
theorem dX11_right_0 : decode cX11_right 0 = .ok (.aload_n 0, 1) := by decide +kernel
theorem dX11_right_1 : decode cX11_right 1 = .ok (.iload_n 1, 1) := by decide +kernel
theorem dX11_right_2 : decode cX11_right 2 = .ok (.invokevirtual 99, 3) := by decide +kernel
theorem dX11_right_5 : decode cX11_right 5 = .ok (.ifnull 35, 3) := by decide +kernel
theorem dX11_right_8 : decode cX11_right 8 = .ok (.iload_n 2, 1) := by decide +kernel
theorem dX11_right_9 : decode cX11_right 9 = .ok (.iconst 0, 1) := by decide +kernel
theorem dX11_right_10 : decode cX11_right 10 = .ok (.bipush 7, 2) := by decide +kernel
theorem dX11_right_12 : decode cX11_right 12 = .ok (.invokestatic 92, 3) := by decide +kernel
theorem dX11_right_15 : decode cX11_right 15 = .ok (.ifCond .eq 25, 3) := by decide +kernel
theorem dX11_right_18 : decode cX11_right 18 = .ok (.iload_n 3, 1) := by decide +kernel
theorem dX11_right_19 : decode cX11_right 19 = .ok (.iconst 0, 1) := by decide +kernel
theorem dX11_right_20 : decode cX11_right 20 = .ok (.bipush 100, 2) := by decide +kernel
theorem dX11_right_22 : decode cX11_right 22 = .ok (.invokestatic 92, 3) := by decide +kernel
theorem dX11_right_25 : decode cX11_right 25 = .ok (.ifCond .eq 15, 3) := by decide +kernel
theorem dX11_right_28 : decode cX11_right 28 = .ok (.iload 4, 2) := by decide +kernel
theorem dX11_right_30 : decode cX11_right 30 = .ok (.iconst 0, 1) := by decide +kernel
theorem dX11_right_31 : decode cX11_right 31 = .ok (.sipush 200, 3) := by decide +kernel
theorem dX11_right_34 : decode cX11_right 34 = .ok (.invokestatic 92, 3) := by decide +kernel
theorem dX11_right_37 : decode cX11_right 37 = .ok (.ifCond .ne 5, 3) := by decide +kernel
theorem dX11_right_40 : decode cX11_right 40 = .ok (.iconst 0, 1) := by decide +kernel
theorem dX11_right_41 : decode cX11_right 41 = .ok (.ireturn, 1) := by decide +kernel
theorem dX11_right_42 : decode cX11_right 42 = .ok (.aload_n 0, 1) := by decide +kernel
theorem dX11_right_43 : decode cX11_right 43 = .ok (.getfield 52, 3) := by decide +kernel
theorem dX11_right_46 : decode cX11_right 46 = .ok (.iload_n 1, 1) := by decide +kernel
theorem dX11_right_47 : decode cX11_right 47 = .ok (.iload_n 2, 1) := by decide +kernel
theorem dX11_right_48 : decode cX11_right 48 = .ok (.iload_n 3, 1) := by decide +kernel
theorem dX11_right_49 : decode cX11_right 49 = .ok (.iload 4, 2) := by decide +kernel
theorem dX11_right_51 : decode cX11_right 51 = .ok (.invokevirtual 280, 3) := by decide +kernel
theorem dX11_right_54 : decode cX11_right 54 = .ok (.ireturn, 1) := by decide +kernel
theorem dX11_pay_0 : decode cX11_pay 0 = .ok (.aload_n 0, 1) := by decide +kernel
theorem dX11_pay_1 : decode cX11_pay 1 = .ok (.iload_n 1, 1) := by decide +kernel
theorem dX11_pay_2 : decode cX11_pay 2 = .ok (.invokevirtual 258, 3) := by decide +kernel
theorem dX11_pay_5 : decode cX11_pay 5 = .ok (.ifnull 36, 3) := by decide +kernel
theorem dX11_pay_8 : decode cX11_pay 8 = .ok (.iload_n 2, 1) := by decide +kernel
theorem dX11_pay_9 : decode cX11_pay 9 = .ok (.iconst 1, 1) := by decide +kernel
theorem dX11_pay_10 : decode cX11_pay 10 = .ok (.ldc_w 284, 3) := by decide +kernel
theorem dX11_pay_13 : decode cX11_pay 13 = .ok (.invokestatic 92, 3) := by decide +kernel
theorem dX11_pay_16 : decode cX11_pay 16 = .ok (.ifCond .eq 25, 3) := by decide +kernel
theorem dX11_pay_19 : decode cX11_pay 19 = .ok (.aload_n 0, 1) := by decide +kernel
theorem dX11_pay_20 : decode cX11_pay 20 = .ok (.getfield 285, 3) := by decide +kernel
theorem dX11_pay_23 : decode cX11_pay 23 = .ok (.aload_n 0, 1) := by decide +kernel
theorem dX11_pay_24 : decode cX11_pay 24 = .ok (.getfield 58, 3) := by decide +kernel
theorem dX11_pay_27 : decode cX11_pay 27 = .ok (.arraylength, 1) := by decide +kernel
theorem dX11_pay_28 : decode cX11_pay 28 = .ok (.if_icmp .ge 13, 3) := by decide +kernel
theorem dX11_pay_31 : decode cX11_pay 31 = .ok (.aload_n 0, 1) := by decide +kernel
theorem dX11_pay_32 : decode cX11_pay 32 = .ok (.getfield 65, 3) := by decide +kernel
theorem dX11_pay_35 : decode cX11_pay 35 = .ok (.invokevirtual 288, 3) := by decide +kernel
theorem dX11_pay_38 : decode cX11_pay 38 = .ok (.ifCond .ne 5, 3) := by decide +kernel
theorem dX11_pay_41 : decode cX11_pay 41 = .ok (.iconst (-1), 1) := by decide +kernel
theorem dX11_pay_42 : decode cX11_pay 42 = .ok (.ireturn, 1) := by decide +kernel
theorem dX11_pay_43 : decode cX11_pay 43 = .ok (.aload_n 0, 1) := by decide +kernel
theorem dX11_pay_44 : decode cX11_pay 44 = .ok (.getfield 58, 3) := by decide +kernel
theorem dX11_pay_47 : decode cX11_pay 47 = .ok (.aload_n 0, 1) := by decide +kernel
theorem dX11_pay_48 : decode cX11_pay 48 = .ok (.getfield 285, 3) := by decide +kernel
theorem dX11_pay_51 : decode cX11_pay 51 = .ok (.new 56, 3) := by decide +kernel
theorem dX11_pay_54 : decode cX11_pay 54 = .ok (.dup, 1) := by decide +kernel
theorem dX11_pay_55 : decode cX11_pay 55 = .ok (.iload_n 1, 1) := by decide +kernel
theorem dX11_pay_56 : decode cX11_pay 56 = .ok (.iload_n 2, 1) := by decide +kernel
theorem dX11_pay_57 : decode cX11_pay 57 = .ok (.aload_n 0, 1) := by decide +kernel
theorem dX11_pay_58 : decode cX11_pay 58 = .ok (.getfield 110, 3) := by decide +kernel
theorem dX11_pay_61 : decode cX11_pay 61 = .ok (.invokespecial 291, 3) := by decide +kernel
theorem dX11_pay_64 : decode cX11_pay 64 = .ok (.aastore, 1) := by decide +kernel
theorem dX11_pay_65 : decode cX11_pay 65 = .ok (.aload_n 0, 1) := by decide +kernel
theorem dX11_pay_66 : decode cX11_pay 66 = .ok (.dup, 1) := by decide +kernel
theorem dX11_pay_67 : decode cX11_pay 67 = .ok (.getfield 285, 3) := by decide +kernel
theorem dX11_pay_70 : decode cX11_pay 70 = .ok (.iconst 1, 1) := by decide +kernel
theorem dX11_pay_71 : decode cX11_pay 71 = .ok (.iadd, 1) := by decide +kernel
theorem dX11_pay_72 : decode cX11_pay 72 = .ok (.putfield 285, 3) := by decide +kernel
theorem dX11_pay_75 : decode cX11_pay 75 = .ok (.aload_n 0, 1) := by decide +kernel
theorem dX11_pay_76 : decode cX11_pay 76 = .ok (.aload_n 0, 1) := by decide +kernel
theorem dX11_pay_77 : decode cX11_pay 77 = .ok (.getfield 285, 3) := by decide +kernel
theorem dX11_pay_80 : decode cX11_pay 80 = .ok (.iconst 1, 1) := by decide +kernel
theorem dX11_pay_81 : decode cX11_pay 81 = .ok (.isub, 1) := by decide +kernel
theorem dX11_pay_82 : decode cX11_pay 82 = .ok (.invokevirtual 292, 3) := by decide +kernel
theorem dX11_pay_85 : decode cX11_pay 85 = .ok (.pop, 1) := by decide +kernel
theorem dX11_pay_86 : decode cX11_pay 86 = .ok (.aload_n 0, 1) := by decide +kernel
theorem dX11_pay_87 : decode cX11_pay 87 = .ok (.getfield 285, 3) := by decide +kernel
theorem dX11_pay_90 : decode cX11_pay 90 = .ok (.iconst 1, 1) := by decide +kernel
theorem dX11_pay_91 : decode cX11_pay 91 = .ok (.isub, 1) := by decide +kernel
theorem dX11_pay_92 : decode cX11_pay 92 = .ok (.ireturn, 1) := by decide +kernel
theorem dX11_again_0 : decode cX11_again 0 = .ok (.iload_n 1, 1) := by decide +kernel
theorem dX11_again_1 : decode cX11_again 1 = .ok (.iconst 0, 1) := by decide +kernel
theorem dX11_again_2 : decode cX11_again 2 = .ok (.aload_n 0, 1) := by decide +kernel
theorem dX11_again_3 : decode cX11_again 3 = .ok (.getfield 285, 3) := by decide +kernel
theorem dX11_again_6 : decode cX11_again 6 = .ok (.iconst 1, 1) := by decide +kernel
theorem dX11_again_7 : decode cX11_again 7 = .ok (.isub, 1) := by decide +kernel
theorem dX11_again_8 : decode cX11_again 8 = .ok (.invokestatic 92, 3) := by decide +kernel
theorem dX11_again_11 : decode cX11_again 11 = .ok (.ifCond .eq 13, 3) := by decide +kernel
theorem dX11_again_14 : decode cX11_again 14 = .ok (.aload_n 0, 1) := by decide +kernel
theorem dX11_again_15 : decode cX11_again 15 = .ok (.getfield 65, 3) := by decide +kernel
theorem dX11_again_18 : decode cX11_again 18 = .ok (.invokevirtual 288, 3) := by decide +kernel
theorem dX11_again_21 : decode cX11_again 21 = .ok (.ifCond .ne 5, 3) := by decide +kernel
theorem dX11_again_24 : decode cX11_again 24 = .ok (.iconst (-1), 1) := by decide +kernel
theorem dX11_again_25 : decode cX11_again 25 = .ok (.ireturn, 1) := by decide +kernel
theorem dX11_again_26 : decode cX11_again 26 = .ok (.aload_n 0, 1) := by decide +kernel
theorem dX11_again_27 : decode cX11_again 27 = .ok (.iload_n 1, 1) := by decide +kernel
theorem dX11_again_28 : decode cX11_again 28 = .ok (.invokevirtual 292, 3) := by decide +kernel
theorem dX11_again_31 : decode cX11_again 31 = .ok (.ireturn, 1) := by decide +kernel
theorem dX11_line_0 : decode cX11_line 0 = .ok (.iload_n 1, 1) := by decide +kernel
theorem dX11_line_1 : decode cX11_line 1 = .ok (.iconst 0, 1) := by decide +kernel
theorem dX11_line_2 : decode cX11_line 2 = .ok (.aload_n 0, 1) := by decide +kernel
theorem dX11_line_3 : decode cX11_line 3 = .ok (.getfield 65, 3) := by decide +kernel
theorem dX11_line_6 : decode cX11_line 6 = .ok (.getfield 295, 3) := by decide +kernel
theorem dX11_line_9 : decode cX11_line 9 = .ok (.iconst 1, 1) := by decide +kernel
theorem dX11_line_10 : decode cX11_line 10 = .ok (.isub, 1) := by decide +kernel
theorem dX11_line_11 : decode cX11_line 11 = .ok (.invokestatic 92, 3) := by decide +kernel
theorem dX11_line_14 : decode cX11_line 14 = .ok (.ifCond .ne 5, 3) := by decide +kernel
theorem dX11_line_17 : decode cX11_line 17 = .ok (.iconst 0, 1) := by decide +kernel
theorem dX11_line_18 : decode cX11_line 18 = .ok (.ireturn, 1) := by decide +kernel
theorem dX11_line_19 : decode cX11_line 19 = .ok (.iload_n 2, 1) := by decide +kernel
theorem dX11_line_20 : decode cX11_line 20 = .ok (.tableswitch 80 0 3 #[32, 44, 56, 68], 32) := by decide +kernel
theorem dX11_line_52 : decode cX11_line 52 = .ok (.aload_n 0, 1) := by decide +kernel
theorem dX11_line_53 : decode cX11_line 53 = .ok (.getfield 65, 3) := by decide +kernel
theorem dX11_line_56 : decode cX11_line 56 = .ok (.getfield 298, 3) := by decide +kernel
theorem dX11_line_59 : decode cX11_line 59 = .ok (.iload_n 1, 1) := by decide +kernel
theorem dX11_line_60 : decode cX11_line 60 = .ok (.invokestatic 148, 3) := by decide +kernel
theorem dX11_line_63 : decode cX11_line 63 = .ok (.ireturn, 1) := by decide +kernel
theorem dX11_line_64 : decode cX11_line 64 = .ok (.aload_n 0, 1) := by decide +kernel
theorem dX11_line_65 : decode cX11_line 65 = .ok (.getfield 65, 3) := by decide +kernel
theorem dX11_line_68 : decode cX11_line 68 = .ok (.getfield 301, 3) := by decide +kernel
theorem dX11_line_71 : decode cX11_line 71 = .ok (.iload_n 1, 1) := by decide +kernel
theorem dX11_line_72 : decode cX11_line 72 = .ok (.invokestatic 148, 3) := by decide +kernel
theorem dX11_line_75 : decode cX11_line 75 = .ok (.ireturn, 1) := by decide +kernel
theorem dX11_line_76 : decode cX11_line 76 = .ok (.aload_n 0, 1) := by decide +kernel
theorem dX11_line_77 : decode cX11_line 77 = .ok (.getfield 65, 3) := by decide +kernel
theorem dX11_line_80 : decode cX11_line 80 = .ok (.getfield 304, 3) := by decide +kernel
theorem dX11_line_83 : decode cX11_line 83 = .ok (.iload_n 1, 1) := by decide +kernel
theorem dX11_line_84 : decode cX11_line 84 = .ok (.invokestatic 148, 3) := by decide +kernel
theorem dX11_line_87 : decode cX11_line 87 = .ok (.ireturn, 1) := by decide +kernel
theorem dX11_line_88 : decode cX11_line 88 = .ok (.aload_n 0, 1) := by decide +kernel
theorem dX11_line_89 : decode cX11_line 89 = .ok (.getfield 65, 3) := by decide +kernel
theorem dX11_line_92 : decode cX11_line 92 = .ok (.getfield 307, 3) := by decide +kernel
theorem dX11_line_95 : decode cX11_line 95 = .ok (.iload_n 1, 1) := by decide +kernel
theorem dX11_line_96 : decode cX11_line 96 = .ok (.invokestatic 148, 3) := by decide +kernel
theorem dX11_line_99 : decode cX11_line 99 = .ok (.ireturn, 1) := by decide +kernel
theorem dX11_line_100 : decode cX11_line 100 = .ok (.iconst 0, 1) := by decide +kernel
theorem dX11_line_101 : decode cX11_line 101 = .ok (.ireturn, 1) := by decide +kernel
theorem dX11_coins_0 : decode cX11_coins 0 = .ok (.aload_n 0, 1) := by decide +kernel
theorem dX11_coins_1 : decode cX11_coins 1 = .ok (.getfield 65, 3) := by decide +kernel
theorem dX11_coins_4 : decode cX11_coins 4 = .ok (.getfield 310, 3) := by decide +kernel
theorem dX11_coins_7 : decode cX11_coins 7 = .ok (.iload_n 1, 1) := by decide +kernel
theorem dX11_coins_8 : decode cX11_coins 8 = .ok (.invokestatic 148, 3) := by decide +kernel
theorem dX11_coins_11 : decode cX11_coins 11 = .ok (.ireturn, 1) := by decide +kernel
theorem dX11_settle_0 : decode cX11_settle 0 = .ok (.iload_n 1, 1) := by decide +kernel
theorem dX11_settle_1 : decode cX11_settle 1 = .ok (.ifCond .lt 21, 3) := by decide +kernel
theorem dX11_settle_4 : decode cX11_settle 4 = .ok (.iload_n 1, 1) := by decide +kernel
theorem dX11_settle_5 : decode cX11_settle 5 = .ok (.aload_n 0, 1) := by decide +kernel
theorem dX11_settle_6 : decode cX11_settle 6 = .ok (.getfield 58, 3) := by decide +kernel
theorem dX11_settle_9 : decode cX11_settle 9 = .ok (.arraylength, 1) := by decide +kernel
theorem dX11_settle_10 : decode cX11_settle 10 = .ok (.if_icmp .ge 12, 3) := by decide +kernel
theorem dX11_settle_13 : decode cX11_settle 13 = .ok (.aload_n 0, 1) := by decide +kernel
theorem dX11_settle_14 : decode cX11_settle 14 = .ok (.getfield 58, 3) := by decide +kernel
theorem dX11_settle_17 : decode cX11_settle 17 = .ok (.iload_n 1, 1) := by decide +kernel
theorem dX11_settle_18 : decode cX11_settle 18 = .ok (.aaload, 1) := by decide +kernel
theorem dX11_settle_19 : decode cX11_settle 19 = .ok (.goto 4, 3) := by decide +kernel
theorem dX11_settle_22 : decode cX11_settle 22 = .ok (.aconst_null, 1) := by decide +kernel
theorem dX11_settle_23 : decode cX11_settle 23 = .ok (.astore_n 2, 1) := by decide +kernel
theorem dX11_settle_24 : decode cX11_settle 24 = .ok (.aload_n 2, 1) := by decide +kernel
theorem dX11_settle_25 : decode cX11_settle 25 = .ok (.ifnonnull 7, 3) := by decide +kernel
theorem dX11_settle_28 : decode cX11_settle 28 = .ok (.aconst_null, 1) := by decide +kernel
theorem dX11_settle_29 : decode cX11_settle 29 = .ok (.goto 11, 3) := by decide +kernel
theorem dX11_settle_32 : decode cX11_settle 32 = .ok (.aload_n 0, 1) := by decide +kernel
theorem dX11_settle_33 : decode cX11_settle 33 = .ok (.aload_n 2, 1) := by decide +kernel
theorem dX11_settle_34 : decode cX11_settle 34 = .ok (.getfield 313, 3) := by decide +kernel
theorem dX11_settle_37 : decode cX11_settle 37 = .ok (.invokevirtual 258, 3) := by decide +kernel
theorem dX11_settle_40 : decode cX11_settle 40 = .ok (.astore_n 3, 1) := by decide +kernel
theorem dX11_settle_41 : decode cX11_settle 41 = .ok (.aload_n 3, 1) := by decide +kernel
theorem dX11_settle_42 : decode cX11_settle 42 = .ok (.ifnonnull 5, 3) := by decide +kernel
theorem dX11_settle_45 : decode cX11_settle 45 = .ok (.iconst 0, 1) := by decide +kernel
theorem dX11_settle_46 : decode cX11_settle 46 = .ok (.ireturn, 1) := by decide +kernel
theorem dX11_settle_47 : decode cX11_settle 47 = .ok (.iconst 0, 1) := by decide +kernel
theorem dX11_settle_48 : decode cX11_settle 48 = .ok (.istore 4, 2) := by decide +kernel
theorem dX11_settle_50 : decode cX11_settle 50 = .ok (.iload 4, 2) := by decide +kernel
theorem dX11_settle_52 : decode cX11_settle 52 = .ok (.bipush 8, 2) := by decide +kernel
theorem dX11_settle_54 : decode cX11_settle 54 = .ok (.if_icmp .ge 30, 3) := by decide +kernel
theorem dX11_settle_57 : decode cX11_settle 57 = .ok (.aload_n 0, 1) := by decide +kernel
theorem dX11_settle_58 : decode cX11_settle 58 = .ok (.getfield 83, 3) := by decide +kernel
theorem dX11_settle_61 : decode cX11_settle 61 = .ok (.iload 4, 2) := by decide +kernel
theorem dX11_settle_63 : decode cX11_settle 63 = .ok (.aload_n 0, 1) := by decide +kernel
theorem dX11_settle_64 : decode cX11_settle 64 = .ok (.getfield 52, 3) := by decide +kernel
theorem dX11_settle_67 : decode cX11_settle 67 = .ok (.iload 4, 2) := by decide +kernel
theorem dX11_settle_69 : decode cX11_settle 69 = .ok (.aload_n 3, 1) := by decide +kernel
theorem dX11_settle_70 : decode cX11_settle 70 = .ok (.aload_n 2, 1) := by decide +kernel
theorem dX11_settle_71 : decode cX11_settle 71 = .ok (.getfield 316, 3) := by decide +kernel
theorem dX11_settle_74 : decode cX11_settle 74 = .ok (.invokevirtual 319, 3) := by decide +kernel
theorem dX11_settle_77 : decode cX11_settle 77 = .ok (.iastore, 1) := by decide +kernel
theorem dX11_settle_78 : decode cX11_settle 78 = .ok (.iinc 4 1, 3) := by decide +kernel
theorem dX11_settle_81 : decode cX11_settle 81 = .ok (.goto (-31), 3) := by decide +kernel
theorem dX11_settle_84 : decode cX11_settle 84 = .ok (.aload_n 0, 1) := by decide +kernel
theorem dX11_settle_85 : decode cX11_settle 85 = .ok (.getfield 79, 3) := by decide +kernel
theorem dX11_settle_88 : decode cX11_settle 88 = .ok (.aload_n 2, 1) := by decide +kernel
theorem dX11_settle_89 : decode cX11_settle 89 = .ok (.getfield 323, 3) := by decide +kernel
theorem dX11_settle_92 : decode cX11_settle 92 = .ok (.aload_n 0, 1) := by decide +kernel
theorem dX11_settle_93 : decode cX11_settle 93 = .ok (.getfield 83, 3) := by decide +kernel
theorem dX11_settle_96 : decode cX11_settle 96 = .ok (.invokevirtual 326, 3) := by decide +kernel
theorem dX11_settle_99 : decode cX11_settle 99 = .ok (.ifCond .ne 14, 3) := by decide +kernel
theorem dX11_settle_102 : decode cX11_settle 102 = .ok (.aload_n 0, 1) := by decide +kernel
theorem dX11_settle_103 : decode cX11_settle 103 = .ok (.getfield 79, 3) := by decide +kernel
theorem dX11_settle_106 : decode cX11_settle 106 = .ok (.aload_n 2, 1) := by decide +kernel
theorem dX11_settle_107 : decode cX11_settle 107 = .ok (.getfield 323, 3) := by decide +kernel
theorem dX11_settle_110 : decode cX11_settle 110 = .ok (.invokevirtual 330, 3) := by decide +kernel
theorem dX11_settle_113 : decode cX11_settle 113 = .ok (.iconst 0, 1) := by decide +kernel
theorem dX11_settle_114 : decode cX11_settle 114 = .ok (.istore 4, 2) := by decide +kernel
theorem dX11_settle_116 : decode cX11_settle 116 = .ok (.iconst 0, 1) := by decide +kernel
theorem dX11_settle_117 : decode cX11_settle 117 = .ok (.istore 5, 2) := by decide +kernel
theorem dX11_settle_119 : decode cX11_settle 119 = .ok (.iload 5, 2) := by decide +kernel
theorem dX11_settle_121 : decode cX11_settle 121 = .ok (.bipush 8, 2) := by decide +kernel
theorem dX11_settle_123 : decode cX11_settle 123 = .ok (.if_icmp .ge 65, 3) := by decide +kernel
theorem dX11_settle_126 : decode cX11_settle 126 = .ok (.aload_n 0, 1) := by decide +kernel
theorem dX11_settle_127 : decode cX11_settle 127 = .ok (.getfield 79, 3) := by decide +kernel
theorem dX11_settle_130 : decode cX11_settle 130 = .ok (.getfield 333, 3) := by decide +kernel
theorem dX11_settle_133 : decode cX11_settle 133 = .ok (.iload 5, 2) := by decide +kernel
theorem dX11_settle_135 : decode cX11_settle 135 = .ok (.iaload, 1) := by decide +kernel
theorem dX11_settle_136 : decode cX11_settle 136 = .ok (.aload_n 2, 1) := by decide +kernel
theorem dX11_settle_137 : decode cX11_settle 137 = .ok (.getfield 336, 3) := by decide +kernel
theorem dX11_settle_140 : decode cX11_settle 140 = .ok (.iload 5, 2) := by decide +kernel
theorem dX11_settle_142 : decode cX11_settle 142 = .ok (.iaload, 1) := by decide +kernel
theorem dX11_settle_143 : decode cX11_settle 143 = .ok (.isub, 1) := by decide +kernel
theorem dX11_settle_144 : decode cX11_settle 144 = .ok (.istore 6, 2) := by decide +kernel
theorem dX11_settle_146 : decode cX11_settle 146 = .ok (.iload 6, 2) := by decide +kernel
theorem dX11_settle_148 : decode cX11_settle 148 = .ok (.ifCond .eq 34, 3) := by decide +kernel
theorem dX11_settle_151 : decode cX11_settle 151 = .ok (.aload_n 0, 1) := by decide +kernel
theorem dX11_settle_152 : decode cX11_settle 152 = .ok (.getfield 65, 3) := by decide +kernel
theorem dX11_settle_155 : decode cX11_settle 155 = .ok (.aload_n 0, 1) := by decide +kernel
theorem dX11_settle_156 : decode cX11_settle 156 = .ok (.getfield 110, 3) := by decide +kernel
theorem dX11_settle_159 : decode cX11_settle 159 = .ok (.iload_n 1, 1) := by decide +kernel
theorem dX11_settle_160 : decode cX11_settle 160 = .ok (.iload 5, 2) := by decide +kernel
theorem dX11_settle_162 : decode cX11_settle 162 = .ok (.iload 6, 2) := by decide +kernel
theorem dX11_settle_164 : decode cX11_settle 164 = .ok (.invokevirtual 337, 3) := by decide +kernel
theorem dX11_settle_167 : decode cX11_settle 167 = .ok (.aload_n 2, 1) := by decide +kernel
theorem dX11_settle_168 : decode cX11_settle 168 = .ok (.getfield 336, 3) := by decide +kernel
theorem dX11_settle_171 : decode cX11_settle 171 = .ok (.iload 5, 2) := by decide +kernel
theorem dX11_settle_173 : decode cX11_settle 173 = .ok (.dup2, 1) := by decide +kernel
theorem dX11_settle_174 : decode cX11_settle 174 = .ok (.iaload, 1) := by decide +kernel
theorem dX11_settle_175 : decode cX11_settle 175 = .ok (.iload 6, 2) := by decide +kernel
theorem dX11_settle_177 : decode cX11_settle 177 = .ok (.iadd, 1) := by decide +kernel
theorem dX11_settle_178 : decode cX11_settle 178 = .ok (.iastore, 1) := by decide +kernel
theorem dX11_settle_179 : decode cX11_settle 179 = .ok (.iinc 4 1, 3) := by decide +kernel
theorem dX11_settle_182 : decode cX11_settle 182 = .ok (.iinc 5 1, 3) := by decide +kernel
theorem dX11_settle_185 : decode cX11_settle 185 = .ok (.goto (-66), 3) := by decide +kernel
theorem dX11_settle_188 : decode cX11_settle 188 = .ok (.iload 4, 2) := by decide +kernel
theorem dX11_settle_190 : decode cX11_settle 190 = .ok (.ireturn, 1) := by decide +kernel
theorem dX11_order_0 : decode cX11_order 0 = .ok (.iload_n 1, 1) := by decide +kernel
theorem dX11_order_1 : decode cX11_order 1 = .ok (.iconst 0, 1) := by decide +kernel
theorem dX11_order_2 : decode cX11_order 2 = .ok (.iconst 2, 1) := by decide +kernel
theorem dX11_order_3 : decode cX11_order 3 = .ok (.invokestatic 92, 3) := by decide +kernel
theorem dX11_order_6 : decode cX11_order 6 = .ok (.ifCond .eq 13, 3) := by decide +kernel
theorem dX11_order_9 : decode cX11_order 9 = .ok (.iload_n 2, 1) := by decide +kernel
theorem dX11_order_10 : decode cX11_order 10 = .ok (.iconst 0, 1) := by decide +kernel
theorem dX11_order_11 : decode cX11_order 11 = .ok (.ldc 91, 2) := by decide +kernel
theorem dX11_order_13 : decode cX11_order 13 = .ok (.invokestatic 92, 3) := by decide +kernel
theorem dX11_order_16 : decode cX11_order 16 = .ok (.ifCond .ne 5, 3) := by decide +kernel
theorem dX11_order_19 : decode cX11_order 19 = .ok (.iconst (-1), 1) := by decide +kernel
theorem dX11_order_20 : decode cX11_order 20 = .ok (.ireturn, 1) := by decide +kernel
theorem dX11_order_21 : decode cX11_order 21 = .ok (.aload_n 0, 1) := by decide +kernel
theorem dX11_order_22 : decode cX11_order 22 = .ok (.getfield 72, 3) := by decide +kernel
theorem dX11_order_25 : decode cX11_order 25 = .ok (.iload_n 1, 1) := by decide +kernel
theorem dX11_order_26 : decode cX11_order 26 = .ok (.iload_n 2, 1) := by decide +kernel
theorem dX11_order_27 : decode cX11_order 27 = .ok (.invokevirtual 341, 3) := by decide +kernel
theorem dX11_order_30 : decode cX11_order 30 = .ok (.ireturn, 1) := by decide +kernel
theorem dX11_clear_0 : decode cX11_clear 0 = .ok (.aload_n 0, 1) := by decide +kernel
theorem dX11_clear_1 : decode cX11_clear 1 = .ok (.getfield 72, 3) := by decide +kernel
theorem dX11_clear_4 : decode cX11_clear 4 = .ok (.iconst 0, 1) := by decide +kernel
theorem dX11_clear_5 : decode cX11_clear 5 = .ok (.putfield 344, 3) := by decide +kernel
theorem dX11_clear_8 : decode cX11_clear 8 = .ok (.return_, 1) := by decide +kernel
theorem dX11_met_0 : decode cX11_met 0 = .ok (.iload_n 1, 1) := by decide +kernel
theorem dX11_met_1 : decode cX11_met 1 = .ok (.iconst 0, 1) := by decide +kernel
theorem dX11_met_2 : decode cX11_met 2 = .ok (.aload_n 0, 1) := by decide +kernel
theorem dX11_met_3 : decode cX11_met 3 = .ok (.getfield 72, 3) := by decide +kernel
theorem dX11_met_6 : decode cX11_met 6 = .ok (.getfield 344, 3) := by decide +kernel
theorem dX11_met_9 : decode cX11_met 9 = .ok (.iconst 1, 1) := by decide +kernel
theorem dX11_met_10 : decode cX11_met 10 = .ok (.isub, 1) := by decide +kernel
theorem dX11_met_11 : decode cX11_met 11 = .ok (.invokestatic 92, 3) := by decide +kernel
theorem dX11_met_14 : decode cX11_met 14 = .ok (.ifCond .ne 5, 3) := by decide +kernel
theorem dX11_met_17 : decode cX11_met 17 = .ok (.iconst (-1), 1) := by decide +kernel
theorem dX11_met_18 : decode cX11_met 18 = .ok (.ireturn, 1) := by decide +kernel
theorem dX11_met_19 : decode cX11_met 19 = .ok (.aload_n 0, 1) := by decide +kernel
theorem dX11_met_20 : decode cX11_met 20 = .ok (.getfield 72, 3) := by decide +kernel
theorem dX11_met_23 : decode cX11_met 23 = .ok (.aload_n 0, 1) := by decide +kernel
theorem dX11_met_24 : decode cX11_met 24 = .ok (.getfield 45, 3) := by decide +kernel
theorem dX11_met_27 : decode cX11_met 27 = .ok (.aload_n 0, 1) := by decide +kernel
theorem dX11_met_28 : decode cX11_met 28 = .ok (.getfield 223, 3) := by decide +kernel
theorem dX11_met_31 : decode cX11_met 31 = .ok (.invokevirtual 345, 3) := by decide +kernel
theorem dX11_met_34 : decode cX11_met 34 = .ok (.aload_n 0, 1) := by decide +kernel
theorem dX11_met_35 : decode cX11_met 35 = .ok (.getfield 72, 3) := by decide +kernel
theorem dX11_met_38 : decode cX11_met 38 = .ok (.getfield 349, 3) := by decide +kernel
theorem dX11_met_41 : decode cX11_met 41 = .ok (.iload_n 1, 1) := by decide +kernel
theorem dX11_met_42 : decode cX11_met 42 = .ok (.invokestatic 148, 3) := by decide +kernel
theorem dX11_met_45 : decode cX11_met 45 = .ok (.ireturn, 1) := by decide +kernel
theorem dX11_want_0 : decode cX11_want 0 = .ok (.aload_n 0, 1) := by decide +kernel
theorem dX11_want_1 : decode cX11_want 1 = .ok (.getfield 72, 3) := by decide +kernel
theorem dX11_want_4 : decode cX11_want 4 = .ok (.aload_n 0, 1) := by decide +kernel
theorem dX11_want_5 : decode cX11_want 5 = .ok (.getfield 45, 3) := by decide +kernel
theorem dX11_want_8 : decode cX11_want 8 = .ok (.aload_n 0, 1) := by decide +kernel
theorem dX11_want_9 : decode cX11_want 9 = .ok (.getfield 223, 3) := by decide +kernel
theorem dX11_want_12 : decode cX11_want 12 = .ok (.invokevirtual 352, 3) := by decide +kernel
theorem dX11_want_15 : decode cX11_want 15 = .ok (.aload_n 0, 1) := by decide +kernel
theorem dX11_want_16 : decode cX11_want 16 = .ok (.getfield 72, 3) := by decide +kernel
theorem dX11_want_19 : decode cX11_want 19 = .ok (.invokevirtual 355, 3) := by decide +kernel
theorem dX11_want_22 : decode cX11_want 22 = .ok (.ireturn, 1) := by decide +kernel
theorem dX11_count_0 : decode cX11_count 0 = .ok (.iload_n 1, 1) := by decide +kernel
theorem dX11_count_1 : decode cX11_count 1 = .ok (.tableswitch 138 0 9 #[55, 60, 65, 70, 75, 83, 91, 114, 122, 133], 55) := by decide +kernel
theorem dX11_count_56 : decode cX11_count 56 = .ok (.aload_n 0, 1) := by decide +kernel
theorem dX11_count_57 : decode cX11_count 57 = .ok (.getfield 110, 3) := by decide +kernel
theorem dX11_count_60 : decode cX11_count 60 = .ok (.ireturn, 1) := by decide +kernel
theorem dX11_count_61 : decode cX11_count 61 = .ok (.aload_n 0, 1) := by decide +kernel
theorem dX11_count_62 : decode cX11_count 62 = .ok (.getfield 87, 3) := by decide +kernel
theorem dX11_count_65 : decode cX11_count 65 = .ok (.ireturn, 1) := by decide +kernel
theorem dX11_count_66 : decode cX11_count 66 = .ok (.aload_n 0, 1) := by decide +kernel
theorem dX11_count_67 : decode cX11_count 67 = .ok (.getfield 223, 3) := by decide +kernel
theorem dX11_count_70 : decode cX11_count 70 = .ok (.ireturn, 1) := by decide +kernel
theorem dX11_count_71 : decode cX11_count 71 = .ok (.aload_n 0, 1) := by decide +kernel
theorem dX11_count_72 : decode cX11_count 72 = .ok (.getfield 285, 3) := by decide +kernel
theorem dX11_count_75 : decode cX11_count 75 = .ok (.ireturn, 1) := by decide +kernel
theorem dX11_count_76 : decode cX11_count 76 = .ok (.aload_n 0, 1) := by decide +kernel
theorem dX11_count_77 : decode cX11_count 77 = .ok (.getfield 65, 3) := by decide +kernel
theorem dX11_count_80 : decode cX11_count 80 = .ok (.getfield 295, 3) := by decide +kernel
theorem dX11_count_83 : decode cX11_count 83 = .ok (.ireturn, 1) := by decide +kernel
theorem dX11_count_84 : decode cX11_count 84 = .ok (.aload_n 0, 1) := by decide +kernel
theorem dX11_count_85 : decode cX11_count 85 = .ok (.getfield 72, 3) := by decide +kernel
theorem dX11_count_88 : decode cX11_count 88 = .ok (.getfield 344, 3) := by decide +kernel
theorem dX11_count_91 : decode cX11_count 91 = .ok (.ireturn, 1) := by decide +kernel
theorem dX11_count_92 : decode cX11_count 92 = .ok (.aload_n 0, 1) := by decide +kernel
theorem dX11_count_93 : decode cX11_count 93 = .ok (.getfield 72, 3) := by decide +kernel
theorem dX11_count_96 : decode cX11_count 96 = .ok (.aload_n 0, 1) := by decide +kernel
theorem dX11_count_97 : decode cX11_count 97 = .ok (.getfield 45, 3) := by decide +kernel
theorem dX11_count_100 : decode cX11_count 100 = .ok (.aload_n 0, 1) := by decide +kernel
theorem dX11_count_101 : decode cX11_count 101 = .ok (.getfield 223, 3) := by decide +kernel
theorem dX11_count_104 : decode cX11_count 104 = .ok (.invokevirtual 345, 3) := by decide +kernel
theorem dX11_count_107 : decode cX11_count 107 = .ok (.aload_n 0, 1) := by decide +kernel
theorem dX11_count_108 : decode cX11_count 108 = .ok (.getfield 72, 3) := by decide +kernel
theorem dX11_count_111 : decode cX11_count 111 = .ok (.invokevirtual 358, 3) := by decide +kernel
theorem dX11_count_114 : decode cX11_count 114 = .ok (.ireturn, 1) := by decide +kernel
theorem dX11_count_115 : decode cX11_count 115 = .ok (.aload_n 0, 1) := by decide +kernel
theorem dX11_count_116 : decode cX11_count 116 = .ok (.getfield 25, 3) := by decide +kernel
theorem dX11_count_119 : decode cX11_count 119 = .ok (.getfield 156, 3) := by decide +kernel
theorem dX11_count_122 : decode cX11_count 122 = .ok (.ireturn, 1) := by decide +kernel
theorem dX11_count_123 : decode cX11_count 123 = .ok (.aload_n 0, 1) := by decide +kernel
theorem dX11_count_124 : decode cX11_count 124 = .ok (.getfield 18, 3) := by decide +kernel
theorem dX11_count_127 : decode cX11_count 127 = .ok (.getfield 181, 3) := by decide +kernel
theorem dX11_count_130 : decode cX11_count 130 = .ok (.invokestatic 177, 3) := by decide +kernel
theorem dX11_count_133 : decode cX11_count 133 = .ok (.ireturn, 1) := by decide +kernel
theorem dX11_count_134 : decode cX11_count 134 = .ok (.aload_n 0, 1) := by decide +kernel
theorem dX11_count_135 : decode cX11_count 135 = .ok (.getfield 250, 3) := by decide +kernel
theorem dX11_count_138 : decode cX11_count 138 = .ok (.ireturn, 1) := by decide +kernel
theorem dX11_count_139 : decode cX11_count 139 = .ok (.iconst (-1), 1) := by decide +kernel
theorem dX11_count_140 : decode cX11_count 140 = .ok (.ireturn, 1) := by decide +kernel
theorem dX11_bogAt_0 : decode cX11_bogAt 0 = .ok (.iload_n 1, 1) := by decide +kernel
theorem dX11_bogAt_1 : decode cX11_bogAt 1 = .ok (.ifCond .lt 29, 3) := by decide +kernel
theorem dX11_bogAt_4 : decode cX11_bogAt 4 = .ok (.iload_n 1, 1) := by decide +kernel
theorem dX11_bogAt_5 : decode cX11_bogAt 5 = .ok (.aload_n 0, 1) := by decide +kernel
theorem dX11_bogAt_6 : decode cX11_bogAt 6 = .ok (.getfield 87, 3) := by decide +kernel
theorem dX11_bogAt_9 : decode cX11_bogAt 9 = .ok (.if_icmp .ge 21, 3) := by decide +kernel
theorem dX11_bogAt_12 : decode cX11_bogAt 12 = .ok (.iload_n 1, 1) := by decide +kernel
theorem dX11_bogAt_13 : decode cX11_bogAt 13 = .ok (.aload_n 0, 1) := by decide +kernel
theorem dX11_bogAt_14 : decode cX11_bogAt 14 = .ok (.getfield 11, 3) := by decide +kernel
theorem dX11_bogAt_17 : decode cX11_bogAt 17 = .ok (.arraylength, 1) := by decide +kernel
theorem dX11_bogAt_18 : decode cX11_bogAt 18 = .ok (.if_icmp .ge 12, 3) := by decide +kernel
theorem dX11_bogAt_21 : decode cX11_bogAt 21 = .ok (.aload_n 0, 1) := by decide +kernel
theorem dX11_bogAt_22 : decode cX11_bogAt 22 = .ok (.getfield 11, 3) := by decide +kernel
theorem dX11_bogAt_25 : decode cX11_bogAt 25 = .ok (.iload_n 1, 1) := by decide +kernel
theorem dX11_bogAt_26 : decode cX11_bogAt 26 = .ok (.aaload, 1) := by decide +kernel
theorem dX11_bogAt_27 : decode cX11_bogAt 27 = .ok (.goto 4, 3) := by decide +kernel
theorem dX11_bogAt_30 : decode cX11_bogAt 30 = .ok (.aconst_null, 1) := by decide +kernel
theorem dX11_bogAt_31 : decode cX11_bogAt 31 = .ok (.areturn, 1) := by decide +kernel
theorem dX11_barAt_0 : decode cX11_barAt 0 = .ok (.iload_n 1, 1) := by decide +kernel
theorem dX11_barAt_1 : decode cX11_barAt 1 = .ok (.ifCond .lt 29, 3) := by decide +kernel
theorem dX11_barAt_4 : decode cX11_barAt 4 = .ok (.iload_n 1, 1) := by decide +kernel
theorem dX11_barAt_5 : decode cX11_barAt 5 = .ok (.aload_n 0, 1) := by decide +kernel
theorem dX11_barAt_6 : decode cX11_barAt 6 = .ok (.getfield 223, 3) := by decide +kernel
theorem dX11_barAt_9 : decode cX11_barAt 9 = .ok (.if_icmp .ge 21, 3) := by decide +kernel
theorem dX11_barAt_12 : decode cX11_barAt 12 = .ok (.iload_n 1, 1) := by decide +kernel
theorem dX11_barAt_13 : decode cX11_barAt 13 = .ok (.aload_n 0, 1) := by decide +kernel
theorem dX11_barAt_14 : decode cX11_barAt 14 = .ok (.getfield 45, 3) := by decide +kernel
theorem dX11_barAt_17 : decode cX11_barAt 17 = .ok (.arraylength, 1) := by decide +kernel
theorem dX11_barAt_18 : decode cX11_barAt 18 = .ok (.if_icmp .ge 12, 3) := by decide +kernel
theorem dX11_barAt_21 : decode cX11_barAt 21 = .ok (.aload_n 0, 1) := by decide +kernel
theorem dX11_barAt_22 : decode cX11_barAt 22 = .ok (.getfield 45, 3) := by decide +kernel
theorem dX11_barAt_25 : decode cX11_barAt 25 = .ok (.iload_n 1, 1) := by decide +kernel
theorem dX11_barAt_26 : decode cX11_barAt 26 = .ok (.aaload, 1) := by decide +kernel
theorem dX11_barAt_27 : decode cX11_barAt 27 = .ok (.goto 4, 3) := by decide +kernel
theorem dX11_barAt_30 : decode cX11_barAt 30 = .ok (.aconst_null, 1) := by decide +kernel
theorem dX11_barAt_31 : decode cX11_barAt 31 = .ok (.areturn, 1) := by decide +kernel
theorem dX11_within_0 : decode cX11_within 0 = .ok (.iload_n 0, 1) := by decide +kernel
theorem dX11_within_1 : decode cX11_within 1 = .ok (.iload_n 1, 1) := by decide +kernel
theorem dX11_within_2 : decode cX11_within 2 = .ok (.if_icmp .lt 12, 3) := by decide +kernel
theorem dX11_within_5 : decode cX11_within 5 = .ok (.iload_n 0, 1) := by decide +kernel
theorem dX11_within_6 : decode cX11_within 6 = .ok (.iload_n 2, 1) := by decide +kernel
theorem dX11_within_7 : decode cX11_within 7 = .ok (.if_icmp .gt 7, 3) := by decide +kernel
theorem dX11_within_10 : decode cX11_within 10 = .ok (.iconst 1, 1) := by decide +kernel
theorem dX11_within_11 : decode cX11_within 11 = .ok (.goto 4, 3) := by decide +kernel
theorem dX11_within_14 : decode cX11_within 14 = .ok (.iconst 0, 1) := by decide +kernel
theorem dX11_within_15 : decode cX11_within 15 = .ok (.ireturn, 1) := by decide +kernel
theorem dX11_itemOf_0 : decode cX11_itemOf 0 = .ok (.iload_n 1, 1) := by decide +kernel
theorem dX11_itemOf_1 : decode cX11_itemOf 1 = .ok (.ifCond .lt 15, 3) := by decide +kernel
theorem dX11_itemOf_4 : decode cX11_itemOf 4 = .ok (.iload_n 1, 1) := by decide +kernel
theorem dX11_itemOf_5 : decode cX11_itemOf 5 = .ok (.aload_n 0, 1) := by decide +kernel
theorem dX11_itemOf_6 : decode cX11_itemOf 6 = .ok (.arraylength, 1) := by decide +kernel
theorem dX11_itemOf_7 : decode cX11_itemOf 7 = .ok (.if_icmp .ge 9, 3) := by decide +kernel
theorem dX11_itemOf_10 : decode cX11_itemOf 10 = .ok (.aload_n 0, 1) := by decide +kernel
theorem dX11_itemOf_11 : decode cX11_itemOf 11 = .ok (.iload_n 1, 1) := by decide +kernel
theorem dX11_itemOf_12 : decode cX11_itemOf 12 = .ok (.iaload, 1) := by decide +kernel
theorem dX11_itemOf_13 : decode cX11_itemOf 13 = .ok (.goto 4, 3) := by decide +kernel
theorem dX11_itemOf_16 : decode cX11_itemOf 16 = .ok (.iconst 0, 1) := by decide +kernel
theorem dX11_itemOf_17 : decode cX11_itemOf 17 = .ok (.ireturn, 1) := by decide +kernel
theorem dX11_sumOf_0 : decode cX11_sumOf 0 = .ok (.iconst 0, 1) := by decide +kernel
theorem dX11_sumOf_1 : decode cX11_sumOf 1 = .ok (.istore_n 1, 1) := by decide +kernel
theorem dX11_sumOf_2 : decode cX11_sumOf 2 = .ok (.iconst 0, 1) := by decide +kernel
theorem dX11_sumOf_3 : decode cX11_sumOf 3 = .ok (.istore_n 2, 1) := by decide +kernel
theorem dX11_sumOf_4 : decode cX11_sumOf 4 = .ok (.iload_n 2, 1) := by decide +kernel
theorem dX11_sumOf_5 : decode cX11_sumOf 5 = .ok (.aload_n 0, 1) := by decide +kernel
theorem dX11_sumOf_6 : decode cX11_sumOf 6 = .ok (.arraylength, 1) := by decide +kernel
theorem dX11_sumOf_7 : decode cX11_sumOf 7 = .ok (.if_icmp .ge 15, 3) := by decide +kernel
theorem dX11_sumOf_10 : decode cX11_sumOf 10 = .ok (.iload_n 1, 1) := by decide +kernel
theorem dX11_sumOf_11 : decode cX11_sumOf 11 = .ok (.aload_n 0, 1) := by decide +kernel
theorem dX11_sumOf_12 : decode cX11_sumOf 12 = .ok (.iload_n 2, 1) := by decide +kernel
theorem dX11_sumOf_13 : decode cX11_sumOf 13 = .ok (.iaload, 1) := by decide +kernel
theorem dX11_sumOf_14 : decode cX11_sumOf 14 = .ok (.iadd, 1) := by decide +kernel
theorem dX11_sumOf_15 : decode cX11_sumOf 15 = .ok (.istore_n 1, 1) := by decide +kernel
theorem dX11_sumOf_16 : decode cX11_sumOf 16 = .ok (.iinc 2 1, 3) := by decide +kernel
theorem dX11_sumOf_19 : decode cX11_sumOf 19 = .ok (.goto (-15), 3) := by decide +kernel
theorem dX11_sumOf_22 : decode cX11_sumOf 22 = .ok (.iload_n 1, 1) := by decide +kernel
theorem dX11_sumOf_23 : decode cX11_sumOf 23 = .ok (.ireturn, 1) := by decide +kernel
theorem dX12_init_0 : decode cX12_init 0 = .ok (.aload_n 0, 1) := by decide +kernel
theorem dX12_init_1 : decode cX12_init 1 = .ok (.invokespecial 1, 3) := by decide +kernel
theorem dX12_init_4 : decode cX12_init 4 = .ok (.aload_n 0, 1) := by decide +kernel
theorem dX12_init_5 : decode cX12_init 5 = .ok (.bipush 12, 2) := by decide +kernel
theorem dX12_init_7 : decode cX12_init 7 = .ok (.newarray .int, 2) := by decide +kernel
theorem dX12_init_9 : decode cX12_init 9 = .ok (.putfield 9, 3) := by decide +kernel
theorem dX12_init_12 : decode cX12_init 12 = .ok (.aload_n 0, 1) := by decide +kernel
theorem dX12_init_13 : decode cX12_init 13 = .ok (.bipush 12, 2) := by decide +kernel
theorem dX12_init_15 : decode cX12_init 15 = .ok (.newarray .int, 2) := by decide +kernel
theorem dX12_init_17 : decode cX12_init 17 = .ok (.putfield 13, 3) := by decide +kernel
theorem dX12_init_20 : decode cX12_init 20 = .ok (.aload_n 0, 1) := by decide +kernel
theorem dX12_init_21 : decode cX12_init 21 = .ok (.bipush 12, 2) := by decide +kernel
theorem dX12_init_23 : decode cX12_init 23 = .ok (.newarray .int, 2) := by decide +kernel
theorem dX12_init_25 : decode cX12_init 25 = .ok (.putfield 16, 3) := by decide +kernel
theorem dX12_init_28 : decode cX12_init 28 = .ok (.aload_n 0, 1) := by decide +kernel
theorem dX12_init_29 : decode cX12_init 29 = .ok (.bipush 12, 2) := by decide +kernel
theorem dX12_init_31 : decode cX12_init 31 = .ok (.newarray .int, 2) := by decide +kernel
theorem dX12_init_33 : decode cX12_init 33 = .ok (.putfield 19, 3) := by decide +kernel
theorem dX12_init_36 : decode cX12_init 36 = .ok (.aload_n 0, 1) := by decide +kernel
theorem dX12_init_37 : decode cX12_init 37 = .ok (.bipush 12, 2) := by decide +kernel
theorem dX12_init_39 : decode cX12_init 39 = .ok (.newarray .int, 2) := by decide +kernel
theorem dX12_init_41 : decode cX12_init 41 = .ok (.putfield 22, 3) := by decide +kernel
theorem dX12_init_44 : decode cX12_init 44 = .ok (.aload_n 0, 1) := by decide +kernel
theorem dX12_init_45 : decode cX12_init 45 = .ok (.bipush 12, 2) := by decide +kernel
theorem dX12_init_47 : decode cX12_init 47 = .ok (.newarray .int, 2) := by decide +kernel
theorem dX12_init_49 : decode cX12_init 49 = .ok (.putfield 25, 3) := by decide +kernel
theorem dX12_init_52 : decode cX12_init 52 = .ok (.aload_n 0, 1) := by decide +kernel
theorem dX12_init_53 : decode cX12_init 53 = .ok (.bipush 12, 2) := by decide +kernel
theorem dX12_init_55 : decode cX12_init 55 = .ok (.newarray .int, 2) := by decide +kernel
theorem dX12_init_57 : decode cX12_init 57 = .ok (.putfield 28, 3) := by decide +kernel
theorem dX12_init_60 : decode cX12_init 60 = .ok (.aload_n 0, 1) := by decide +kernel
theorem dX12_init_61 : decode cX12_init 61 = .ok (.bipush 8, 2) := by decide +kernel
theorem dX12_init_63 : decode cX12_init 63 = .ok (.newarray .int, 2) := by decide +kernel
theorem dX12_init_65 : decode cX12_init 65 = .ok (.putfield 31, 3) := by decide +kernel
theorem dX12_init_68 : decode cX12_init 68 = .ok (.aload_n 0, 1) := by decide +kernel
theorem dX12_init_69 : decode cX12_init 69 = .ok (.bipush 12, 2) := by decide +kernel
theorem dX12_init_71 : decode cX12_init 71 = .ok (.newarray .long, 2) := by decide +kernel
theorem dX12_init_73 : decode cX12_init 73 = .ok (.putfield 34, 3) := by decide +kernel
theorem dX12_init_76 : decode cX12_init 76 = .ok (.aload_n 0, 1) := by decide +kernel
theorem dX12_init_77 : decode cX12_init 77 = .ok (.bipush 12, 2) := by decide +kernel
theorem dX12_init_79 : decode cX12_init 79 = .ok (.newarray .int, 2) := by decide +kernel
theorem dX12_init_81 : decode cX12_init 81 = .ok (.putfield 38, 3) := by decide +kernel
theorem dX12_init_84 : decode cX12_init 84 = .ok (.aload_n 0, 1) := by decide +kernel
theorem dX12_init_85 : decode cX12_init 85 = .ok (.bipush 12, 2) := by decide +kernel
theorem dX12_init_87 : decode cX12_init 87 = .ok (.newarray .boolean, 2) := by decide +kernel
theorem dX12_init_89 : decode cX12_init 89 = .ok (.putfield 41, 3) := by decide +kernel
theorem dX12_init_92 : decode cX12_init 92 = .ok (.aload_n 0, 1) := by decide +kernel
theorem dX12_init_93 : decode cX12_init 93 = .ok (.bipush 12, 2) := by decide +kernel
theorem dX12_init_95 : decode cX12_init 95 = .ok (.newarray .int, 2) := by decide +kernel
theorem dX12_init_97 : decode cX12_init 97 = .ok (.putfield 45, 3) := by decide +kernel
theorem dX12_init_100 : decode cX12_init 100 = .ok (.aload_n 0, 1) := by decide +kernel
theorem dX12_init_101 : decode cX12_init 101 = .ok (.bipush 8, 2) := by decide +kernel
theorem dX12_init_103 : decode cX12_init 103 = .ok (.newarray .int, 2) := by decide +kernel
theorem dX12_init_105 : decode cX12_init 105 = .ok (.putfield 48, 3) := by decide +kernel
theorem dX12_init_108 : decode cX12_init 108 = .ok (.aload_n 0, 1) := by decide +kernel
theorem dX12_init_109 : decode cX12_init 109 = .ok (.bipush 12, 2) := by decide +kernel
theorem dX12_init_111 : decode cX12_init 111 = .ok (.newarray .int, 2) := by decide +kernel
theorem dX12_init_113 : decode cX12_init 113 = .ok (.putfield 51, 3) := by decide +kernel
theorem dX12_init_116 : decode cX12_init 116 = .ok (.aload_n 0, 1) := by decide +kernel
theorem dX12_init_117 : decode cX12_init 117 = .ok (.iconst (-1), 1) := by decide +kernel
theorem dX12_init_118 : decode cX12_init 118 = .ok (.putfield 54, 3) := by decide +kernel
theorem dX12_init_121 : decode cX12_init 121 = .ok (.aload_n 0, 1) := by decide +kernel
theorem dX12_init_122 : decode cX12_init 122 = .ok (.bipush 9, 2) := by decide +kernel
theorem dX12_init_124 : decode cX12_init 124 = .ok (.putfield 58, 3) := by decide +kernel
theorem dX12_init_127 : decode cX12_init 127 = .ok (.aload_n 0, 1) := by decide +kernel
theorem dX12_init_128 : decode cX12_init 128 = .ok (.iconst 1, 1) := by decide +kernel
theorem dX12_init_129 : decode cX12_init 129 = .ok (.putfield 61, 3) := by decide +kernel
theorem dX12_init_132 : decode cX12_init 132 = .ok (.aload_n 0, 1) := by decide +kernel
theorem dX12_init_133 : decode cX12_init 133 = .ok (.sipush 220, 3) := by decide +kernel
theorem dX12_init_136 : decode cX12_init 136 = .ok (.newarray .int, 2) := by decide +kernel
theorem dX12_init_138 : decode cX12_init 138 = .ok (.putfield 64, 3) := by decide +kernel
theorem dX12_init_141 : decode cX12_init 141 = .ok (.aload_n 0, 1) := by decide +kernel
theorem dX12_init_142 : decode cX12_init 142 = .ok (.bipush 60, 2) := by decide +kernel
theorem dX12_init_144 : decode cX12_init 144 = .ok (.newarray .int, 2) := by decide +kernel
theorem dX12_init_146 : decode cX12_init 146 = .ok (.putfield 67, 3) := by decide +kernel
theorem dX12_init_149 : decode cX12_init 149 = .ok (.aload_n 0, 1) := by decide +kernel
theorem dX12_init_150 : decode cX12_init 150 = .ok (.bipush 60, 2) := by decide +kernel
theorem dX12_init_152 : decode cX12_init 152 = .ok (.newarray .int, 2) := by decide +kernel
theorem dX12_init_154 : decode cX12_init 154 = .ok (.putfield 70, 3) := by decide +kernel
theorem dX12_init_157 : decode cX12_init 157 = .ok (.aload_n 0, 1) := by decide +kernel
theorem dX12_init_158 : decode cX12_init 158 = .ok (.bipush 60, 2) := by decide +kernel
theorem dX12_init_160 : decode cX12_init 160 = .ok (.newarray .int, 2) := by decide +kernel
theorem dX12_init_162 : decode cX12_init 162 = .ok (.putfield 73, 3) := by decide +kernel
theorem dX12_init_165 : decode cX12_init 165 = .ok (.aload_n 0, 1) := by decide +kernel
theorem dX12_init_166 : decode cX12_init 166 = .ok (.bipush 60, 2) := by decide +kernel
theorem dX12_init_168 : decode cX12_init 168 = .ok (.newarray .int, 2) := by decide +kernel
theorem dX12_init_170 : decode cX12_init 170 = .ok (.putfield 76, 3) := by decide +kernel
theorem dX12_init_173 : decode cX12_init 173 = .ok (.aload_n 0, 1) := by decide +kernel
theorem dX12_init_174 : decode cX12_init 174 = .ok (.bipush 60, 2) := by decide +kernel
theorem dX12_init_176 : decode cX12_init 176 = .ok (.newarray .int, 2) := by decide +kernel
theorem dX12_init_178 : decode cX12_init 178 = .ok (.putfield 79, 3) := by decide +kernel
theorem dX12_init_181 : decode cX12_init 181 = .ok (.aload_n 0, 1) := by decide +kernel
theorem dX12_init_182 : decode cX12_init 182 = .ok (.bipush 60, 2) := by decide +kernel
theorem dX12_init_184 : decode cX12_init 184 = .ok (.newarray .int, 2) := by decide +kernel
theorem dX12_init_186 : decode cX12_init 186 = .ok (.putfield 82, 3) := by decide +kernel
theorem dX12_init_189 : decode cX12_init 189 = .ok (.aload_n 0, 1) := by decide +kernel
theorem dX12_init_190 : decode cX12_init 190 = .ok (.bipush 60, 2) := by decide +kernel
theorem dX12_init_192 : decode cX12_init 192 = .ok (.newarray .int, 2) := by decide +kernel
theorem dX12_init_194 : decode cX12_init 194 = .ok (.putfield 85, 3) := by decide +kernel
theorem dX12_init_197 : decode cX12_init 197 = .ok (.aload_n 0, 1) := by decide +kernel
theorem dX12_init_198 : decode cX12_init 198 = .ok (.bipush 60, 2) := by decide +kernel
theorem dX12_init_200 : decode cX12_init 200 = .ok (.newarray .int, 2) := by decide +kernel
theorem dX12_init_202 : decode cX12_init 202 = .ok (.putfield 88, 3) := by decide +kernel
theorem dX12_init_205 : decode cX12_init 205 = .ok (.aload_n 0, 1) := by decide +kernel
theorem dX12_init_206 : decode cX12_init 206 = .ok (.sipush 1200, 3) := by decide +kernel
theorem dX12_init_209 : decode cX12_init 209 = .ok (.newarray .int, 2) := by decide +kernel
theorem dX12_init_211 : decode cX12_init 211 = .ok (.putfield 91, 3) := by decide +kernel
theorem dX12_init_214 : decode cX12_init 214 = .ok (.aload_n 0, 1) := by decide +kernel
theorem dX12_init_215 : decode cX12_init 215 = .ok (.sipush 800, 3) := by decide +kernel
theorem dX12_init_218 : decode cX12_init 218 = .ok (.newarray .int, 2) := by decide +kernel
theorem dX12_init_220 : decode cX12_init 220 = .ok (.putfield 94, 3) := by decide +kernel
theorem dX12_init_223 : decode cX12_init 223 = .ok (.aload_n 0, 1) := by decide +kernel
theorem dX12_init_224 : decode cX12_init 224 = .ok (.bipush 100, 2) := by decide +kernel
theorem dX12_init_226 : decode cX12_init 226 = .ok (.newarray .int, 2) := by decide +kernel
theorem dX12_init_228 : decode cX12_init 228 = .ok (.putfield 97, 3) := by decide +kernel
theorem dX12_init_231 : decode cX12_init 231 = .ok (.aload_n 0, 1) := by decide +kernel
theorem dX12_init_232 : decode cX12_init 232 = .ok (.bipush 100, 2) := by decide +kernel
theorem dX12_init_234 : decode cX12_init 234 = .ok (.newarray .int, 2) := by decide +kernel
theorem dX12_init_236 : decode cX12_init 236 = .ok (.putfield 100, 3) := by decide +kernel
theorem dX12_init_239 : decode cX12_init 239 = .ok (.aload_n 0, 1) := by decide +kernel
theorem dX12_init_240 : decode cX12_init 240 = .ok (.bipush 100, 2) := by decide +kernel
theorem dX12_init_242 : decode cX12_init 242 = .ok (.newarray .int, 2) := by decide +kernel
theorem dX12_init_244 : decode cX12_init 244 = .ok (.putfield 103, 3) := by decide +kernel
theorem dX12_init_247 : decode cX12_init 247 = .ok (.aload_n 0, 1) := by decide +kernel
theorem dX12_init_248 : decode cX12_init 248 = .ok (.bipush 100, 2) := by decide +kernel
theorem dX12_init_250 : decode cX12_init 250 = .ok (.newarray .int, 2) := by decide +kernel
theorem dX12_init_252 : decode cX12_init 252 = .ok (.putfield 106, 3) := by decide +kernel
theorem dX12_init_255 : decode cX12_init 255 = .ok (.aload_n 0, 1) := by decide +kernel
theorem dX12_init_256 : decode cX12_init 256 = .ok (.bipush 100, 2) := by decide +kernel
theorem dX12_init_258 : decode cX12_init 258 = .ok (.newarray .int, 2) := by decide +kernel
theorem dX12_init_260 : decode cX12_init 260 = .ok (.putfield 109, 3) := by decide +kernel
theorem dX12_init_263 : decode cX12_init 263 = .ok (.aload_n 0, 1) := by decide +kernel
theorem dX12_init_264 : decode cX12_init 264 = .ok (.bipush 100, 2) := by decide +kernel
theorem dX12_init_266 : decode cX12_init 266 = .ok (.newarray .int, 2) := by decide +kernel
theorem dX12_init_268 : decode cX12_init 268 = .ok (.putfield 112, 3) := by decide +kernel
theorem dX12_init_271 : decode cX12_init 271 = .ok (.aload_n 0, 1) := by decide +kernel
theorem dX12_init_272 : decode cX12_init 272 = .ok (.bipush 100, 2) := by decide +kernel
theorem dX12_init_274 : decode cX12_init 274 = .ok (.newarray .int, 2) := by decide +kernel
theorem dX12_init_276 : decode cX12_init 276 = .ok (.putfield 115, 3) := by decide +kernel
theorem dX12_init_279 : decode cX12_init 279 = .ok (.aload_n 0, 1) := by decide +kernel
theorem dX12_init_280 : decode cX12_init 280 = .ok (.bipush 100, 2) := by decide +kernel
theorem dX12_init_282 : decode cX12_init 282 = .ok (.newarray .int, 2) := by decide +kernel
theorem dX12_init_284 : decode cX12_init 284 = .ok (.putfield 118, 3) := by decide +kernel
theorem dX12_init_287 : decode cX12_init 287 = .ok (.aload_n 0, 1) := by decide +kernel
theorem dX12_init_288 : decode cX12_init 288 = .ok (.bipush 100, 2) := by decide +kernel
theorem dX12_init_290 : decode cX12_init 290 = .ok (.newarray .int, 2) := by decide +kernel
theorem dX12_init_292 : decode cX12_init 292 = .ok (.putfield 121, 3) := by decide +kernel
theorem dX12_init_295 : decode cX12_init 295 = .ok (.aload_n 0, 1) := by decide +kernel
theorem dX12_init_296 : decode cX12_init 296 = .ok (.bipush 60, 2) := by decide +kernel
theorem dX12_init_298 : decode cX12_init 298 = .ok (.newarray .int, 2) := by decide +kernel
theorem dX12_init_300 : decode cX12_init 300 = .ok (.putfield 124, 3) := by decide +kernel
theorem dX12_init_303 : decode cX12_init 303 = .ok (.aload_n 0, 1) := by decide +kernel
theorem dX12_init_304 : decode cX12_init 304 = .ok (.bipush 60, 2) := by decide +kernel
theorem dX12_init_306 : decode cX12_init 306 = .ok (.newarray .int, 2) := by decide +kernel
theorem dX12_init_308 : decode cX12_init 308 = .ok (.putfield 127, 3) := by decide +kernel
theorem dX12_init_311 : decode cX12_init 311 = .ok (.aload_n 0, 1) := by decide +kernel
theorem dX12_init_312 : decode cX12_init 312 = .ok (.bipush 60, 2) := by decide +kernel
theorem dX12_init_314 : decode cX12_init 314 = .ok (.newarray .int, 2) := by decide +kernel
theorem dX12_init_316 : decode cX12_init 316 = .ok (.putfield 130, 3) := by decide +kernel
theorem dX12_init_319 : decode cX12_init 319 = .ok (.aload_n 0, 1) := by decide +kernel
theorem dX12_init_320 : decode cX12_init 320 = .ok (.sipush 480, 3) := by decide +kernel
theorem dX12_init_323 : decode cX12_init 323 = .ok (.newarray .int, 2) := by decide +kernel
theorem dX12_init_325 : decode cX12_init 325 = .ok (.putfield 133, 3) := by decide +kernel
theorem dX12_init_328 : decode cX12_init 328 = .ok (.aload_n 0, 1) := by decide +kernel
theorem dX12_init_329 : decode cX12_init 329 = .ok (.bipush 8, 2) := by decide +kernel
theorem dX12_init_331 : decode cX12_init 331 = .ok (.newarray .int, 2) := by decide +kernel
theorem dX12_init_333 : decode cX12_init 333 = .ok (.putfield 136, 3) := by decide +kernel
theorem dX12_init_336 : decode cX12_init 336 = .ok (.aload_n 0, 1) := by decide +kernel
theorem dX12_init_337 : decode cX12_init 337 = .ok (.sipush 256, 3) := by decide +kernel
theorem dX12_init_340 : decode cX12_init 340 = .ok (.newarray .int, 2) := by decide +kernel
theorem dX12_init_342 : decode cX12_init 342 = .ok (.putfield 139, 3) := by decide +kernel
theorem dX12_init_345 : decode cX12_init 345 = .ok (.aload_n 0, 1) := by decide +kernel
theorem dX12_init_346 : decode cX12_init 346 = .ok (.sipush 256, 3) := by decide +kernel
theorem dX12_init_349 : decode cX12_init 349 = .ok (.newarray .int, 2) := by decide +kernel
theorem dX12_init_351 : decode cX12_init 351 = .ok (.putfield 142, 3) := by decide +kernel
theorem dX12_init_354 : decode cX12_init 354 = .ok (.aload_n 0, 1) := by decide +kernel
theorem dX12_init_355 : decode cX12_init 355 = .ok (.sipush 256, 3) := by decide +kernel
theorem dX12_init_358 : decode cX12_init 358 = .ok (.newarray .int, 2) := by decide +kernel
theorem dX12_init_360 : decode cX12_init 360 = .ok (.putfield 145, 3) := by decide +kernel
theorem dX12_init_363 : decode cX12_init 363 = .ok (.aload_n 0, 1) := by decide +kernel
theorem dX12_init_364 : decode cX12_init 364 = .ok (.sipush 256, 3) := by decide +kernel
theorem dX12_init_367 : decode cX12_init 367 = .ok (.newarray .int, 2) := by decide +kernel
theorem dX12_init_369 : decode cX12_init 369 = .ok (.putfield 148, 3) := by decide +kernel
theorem dX12_init_372 : decode cX12_init 372 = .ok (.aload_n 0, 1) := by decide +kernel
theorem dX12_init_373 : decode cX12_init 373 = .ok (.bipush 8, 2) := by decide +kernel
theorem dX12_init_375 : decode cX12_init 375 = .ok (.newarray .int, 2) := by decide +kernel
theorem dX12_init_377 : decode cX12_init 377 = .ok (.putfield 151, 3) := by decide +kernel
theorem dX12_init_380 : decode cX12_init 380 = .ok (.aload_n 0, 1) := by decide +kernel
theorem dX12_init_381 : decode cX12_init 381 = .ok (.bipush 8, 2) := by decide +kernel
theorem dX12_init_383 : decode cX12_init 383 = .ok (.newarray .int, 2) := by decide +kernel
theorem dX12_init_385 : decode cX12_init 385 = .ok (.putfield 154, 3) := by decide +kernel
theorem dX12_init_388 : decode cX12_init 388 = .ok (.aload_n 0, 1) := by decide +kernel
theorem dX12_init_389 : decode cX12_init 389 = .ok (.bipush 8, 2) := by decide +kernel
theorem dX12_init_391 : decode cX12_init 391 = .ok (.newarray .int, 2) := by decide +kernel
theorem dX12_init_393 : decode cX12_init 393 = .ok (.putfield 157, 3) := by decide +kernel
theorem dX12_init_396 : decode cX12_init 396 = .ok (.aload_n 0, 1) := by decide +kernel
theorem dX12_init_397 : decode cX12_init 397 = .ok (.bipush 100, 2) := by decide +kernel
theorem dX12_init_399 : decode cX12_init 399 = .ok (.newarray .int, 2) := by decide +kernel
theorem dX12_init_401 : decode cX12_init 401 = .ok (.putfield 160, 3) := by decide +kernel
theorem dX12_init_404 : decode cX12_init 404 = .ok (.aload_n 0, 1) := by decide +kernel
theorem dX12_init_405 : decode cX12_init 405 = .ok (.bipush 100, 2) := by decide +kernel
theorem dX12_init_407 : decode cX12_init 407 = .ok (.newarray .boolean, 2) := by decide +kernel
theorem dX12_init_409 : decode cX12_init 409 = .ok (.putfield 163, 3) := by decide +kernel
theorem dX12_init_412 : decode cX12_init 412 = .ok (.return_, 1) := by decide +kernel
theorem dX12_in_0 : decode cX12_in 0 = .ok (.iload_n 0, 1) := by decide +kernel
theorem dX12_in_1 : decode cX12_in 1 = .ok (.iload_n 1, 1) := by decide +kernel
theorem dX12_in_2 : decode cX12_in 2 = .ok (.if_icmp .lt 12, 3) := by decide +kernel
theorem dX12_in_5 : decode cX12_in 5 = .ok (.iload_n 0, 1) := by decide +kernel
theorem dX12_in_6 : decode cX12_in 6 = .ok (.iload_n 2, 1) := by decide +kernel
theorem dX12_in_7 : decode cX12_in 7 = .ok (.if_icmp .gt 7, 3) := by decide +kernel
theorem dX12_in_10 : decode cX12_in 10 = .ok (.iconst 1, 1) := by decide +kernel
theorem dX12_in_11 : decode cX12_in 11 = .ok (.goto 4, 3) := by decide +kernel
theorem dX12_in_14 : decode cX12_in 14 = .ok (.iconst 0, 1) := by decide +kernel
theorem dX12_in_15 : decode cX12_in 15 = .ok (.ireturn, 1) := by decide +kernel
theorem dX12_isBog_0 : decode cX12_isBog 0 = .ok (.iload_n 1, 1) := by decide +kernel
theorem dX12_isBog_1 : decode cX12_isBog 1 = .ok (.iconst 0, 1) := by decide +kernel
theorem dX12_isBog_2 : decode cX12_isBog 2 = .ok (.aload_n 0, 1) := by decide +kernel
theorem dX12_isBog_3 : decode cX12_isBog 3 = .ok (.getfield 166, 3) := by decide +kernel
theorem dX12_isBog_6 : decode cX12_isBog 6 = .ok (.iconst 1, 1) := by decide +kernel
theorem dX12_isBog_7 : decode cX12_isBog 7 = .ok (.isub, 1) := by decide +kernel
theorem dX12_isBog_8 : decode cX12_isBog 8 = .ok (.invokestatic 169, 3) := by decide +kernel
theorem dX12_isBog_11 : decode cX12_isBog 11 = .ok (.ireturn, 1) := by decide +kernel
theorem dX12_sum_0 : decode cX12_sum 0 = .ok (.iconst 0, 1) := by decide +kernel
theorem dX12_sum_1 : decode cX12_sum 1 = .ok (.istore_n 1, 1) := by decide +kernel
theorem dX12_sum_2 : decode cX12_sum 2 = .ok (.iconst 0, 1) := by decide +kernel
theorem dX12_sum_3 : decode cX12_sum 3 = .ok (.istore_n 2, 1) := by decide +kernel
theorem dX12_sum_4 : decode cX12_sum 4 = .ok (.iload_n 2, 1) := by decide +kernel
theorem dX12_sum_5 : decode cX12_sum 5 = .ok (.aload_n 0, 1) := by decide +kernel
theorem dX12_sum_6 : decode cX12_sum 6 = .ok (.arraylength, 1) := by decide +kernel
theorem dX12_sum_7 : decode cX12_sum 7 = .ok (.if_icmp .ge 15, 3) := by decide +kernel
theorem dX12_sum_10 : decode cX12_sum 10 = .ok (.iload_n 1, 1) := by decide +kernel
theorem dX12_sum_11 : decode cX12_sum 11 = .ok (.aload_n 0, 1) := by decide +kernel
theorem dX12_sum_12 : decode cX12_sum 12 = .ok (.iload_n 2, 1) := by decide +kernel
theorem dX12_sum_13 : decode cX12_sum 13 = .ok (.iaload, 1) := by decide +kernel
theorem dX12_sum_14 : decode cX12_sum 14 = .ok (.iadd, 1) := by decide +kernel
theorem dX12_sum_15 : decode cX12_sum 15 = .ok (.istore_n 1, 1) := by decide +kernel
theorem dX12_sum_16 : decode cX12_sum 16 = .ok (.iinc 2 1, 3) := by decide +kernel
theorem dX12_sum_19 : decode cX12_sum 19 = .ok (.goto (-15), 3) := by decide +kernel
theorem dX12_sum_22 : decode cX12_sum 22 = .ok (.iload_n 1, 1) := by decide +kernel
theorem dX12_sum_23 : decode cX12_sum 23 = .ok (.ireturn, 1) := by decide +kernel
theorem dX12_partAmong_0 : decode cX12_partAmong 0 = .ok (.lconst 0, 1) := by decide +kernel
theorem dX12_partAmong_1 : decode cX12_partAmong 1 = .ok (.lstore 4, 2) := by decide +kernel
theorem dX12_partAmong_3 : decode cX12_partAmong 3 = .ok (.iconst 0, 1) := by decide +kernel
theorem dX12_partAmong_4 : decode cX12_partAmong 4 = .ok (.istore 6, 2) := by decide +kernel
theorem dX12_partAmong_6 : decode cX12_partAmong 6 = .ok (.iload 6, 2) := by decide +kernel
theorem dX12_partAmong_8 : decode cX12_partAmong 8 = .ok (.iload_n 3, 1) := by decide +kernel
theorem dX12_partAmong_9 : decode cX12_partAmong 9 = .ok (.if_icmp .ge 21, 3) := by decide +kernel
theorem dX12_partAmong_12 : decode cX12_partAmong 12 = .ok (.lload 4, 2) := by decide +kernel
theorem dX12_partAmong_14 : decode cX12_partAmong 14 = .ok (.aload_n 0, 1) := by decide +kernel
theorem dX12_partAmong_15 : decode cX12_partAmong 15 = .ok (.getfield 34, 3) := by decide +kernel
theorem dX12_partAmong_18 : decode cX12_partAmong 18 = .ok (.iload 6, 2) := by decide +kernel
theorem dX12_partAmong_20 : decode cX12_partAmong 20 = .ok (.laload, 1) := by decide +kernel
theorem dX12_partAmong_21 : decode cX12_partAmong 21 = .ok (.ladd, 1) := by decide +kernel
theorem dX12_partAmong_22 : decode cX12_partAmong 22 = .ok (.lstore 4, 2) := by decide +kernel
theorem dX12_partAmong_24 : decode cX12_partAmong 24 = .ok (.iinc 6 1, 3) := by decide +kernel
theorem dX12_partAmong_27 : decode cX12_partAmong 27 = .ok (.goto (-21), 3) := by decide +kernel
theorem dX12_partAmong_30 : decode cX12_partAmong 30 = .ok (.lload_n 1, 1) := by decide +kernel
theorem dX12_partAmong_31 : decode cX12_partAmong 31 = .ok (.lstore 6, 2) := by decide +kernel
theorem dX12_partAmong_33 : decode cX12_partAmong 33 = .ok (.iconst 0, 1) := by decide +kernel
theorem dX12_partAmong_34 : decode cX12_partAmong 34 = .ok (.istore 8, 2) := by decide +kernel
theorem dX12_partAmong_36 : decode cX12_partAmong 36 = .ok (.iload 8, 2) := by decide +kernel
theorem dX12_partAmong_38 : decode cX12_partAmong 38 = .ok (.iload_n 3, 1) := by decide +kernel
theorem dX12_partAmong_39 : decode cX12_partAmong 39 = .ok (.if_icmp .ge 50, 3) := by decide +kernel
theorem dX12_partAmong_42 : decode cX12_partAmong 42 = .ok (.aload_n 0, 1) := by decide +kernel
theorem dX12_partAmong_43 : decode cX12_partAmong 43 = .ok (.getfield 38, 3) := by decide +kernel
theorem dX12_partAmong_46 : decode cX12_partAmong 46 = .ok (.iload 8, 2) := by decide +kernel
theorem dX12_partAmong_48 : decode cX12_partAmong 48 = .ok (.lload_n 1, 1) := by decide +kernel
theorem dX12_partAmong_49 : decode cX12_partAmong 49 = .ok (.aload_n 0, 1) := by decide +kernel
theorem dX12_partAmong_50 : decode cX12_partAmong 50 = .ok (.getfield 34, 3) := by decide +kernel
theorem dX12_partAmong_53 : decode cX12_partAmong 53 = .ok (.iload 8, 2) := by decide +kernel
theorem dX12_partAmong_55 : decode cX12_partAmong 55 = .ok (.laload, 1) := by decide +kernel
theorem dX12_partAmong_56 : decode cX12_partAmong 56 = .ok (.lmul, 1) := by decide +kernel
theorem dX12_partAmong_57 : decode cX12_partAmong 57 = .ok (.lload 4, 2) := by decide +kernel
