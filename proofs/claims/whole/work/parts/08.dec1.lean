/-! decode rows (written by wip/whole/gen02.py) -/
theorem dd_Tr_init_0 : decode cc_Tr_init 0 = .ok (.aload_n 0, 1) := by decide +kernel
theorem dd_Tr_init_1 : decode cc_Tr_init 1 = .ok (.invokespecial 3, 3) := by decide +kernel
theorem dd_Tr_init_4 : decode cc_Tr_init 4 = .ok (.aload_n 0, 1) := by decide +kernel
theorem dd_Tr_init_5 : decode cc_Tr_init 5 = .ok (.bipush 40, 2) := by decide +kernel
theorem dd_Tr_init_7 : decode cc_Tr_init 7 = .ok (.newarray .int, 2) := by decide +kernel
theorem dd_Tr_init_9 : decode cc_Tr_init 9 = .ok (.putfield 9, 3) := by decide +kernel
theorem dd_Tr_init_12 : decode cc_Tr_init 12 = .ok (.aload_n 0, 1) := by decide +kernel
theorem dd_Tr_init_13 : decode cc_Tr_init 13 = .ok (.bipush 40, 2) := by decide +kernel
theorem dd_Tr_init_15 : decode cc_Tr_init 15 = .ok (.newarray .int, 2) := by decide +kernel
theorem dd_Tr_init_17 : decode cc_Tr_init 17 = .ok (.putfield 15, 3) := by decide +kernel
theorem dd_Tr_init_20 : decode cc_Tr_init 20 = .ok (.aload_n 0, 1) := by decide +kernel
theorem dd_Tr_init_21 : decode cc_Tr_init 21 = .ok (.bipush 40, 2) := by decide +kernel
theorem dd_Tr_init_23 : decode cc_Tr_init 23 = .ok (.newarray .int, 2) := by decide +kernel
theorem dd_Tr_init_25 : decode cc_Tr_init 25 = .ok (.putfield 18, 3) := by decide +kernel
theorem dd_Tr_init_28 : decode cc_Tr_init 28 = .ok (.return_, 1) := by decide +kernel
theorem dd_Ve_init_0 : decode cc_Ve_init 0 = .ok (.aload_n 0, 1) := by decide +kernel
theorem dd_Ve_init_1 : decode cc_Ve_init 1 = .ok (.invokespecial 3, 3) := by decide +kernel
theorem dd_Ve_init_4 : decode cc_Ve_init 4 = .ok (.aload_n 0, 1) := by decide +kernel
theorem dd_Ve_init_5 : decode cc_Ve_init 5 = .ok (.bipush 90, 2) := by decide +kernel
theorem dd_Ve_init_7 : decode cc_Ve_init 7 = .ok (.newarray .int, 2) := by decide +kernel
theorem dd_Ve_init_9 : decode cc_Ve_init 9 = .ok (.putfield 9, 3) := by decide +kernel
theorem dd_Ve_init_12 : decode cc_Ve_init 12 = .ok (.aload_n 0, 1) := by decide +kernel
theorem dd_Ve_init_13 : decode cc_Ve_init 13 = .ok (.bipush 90, 2) := by decide +kernel
theorem dd_Ve_init_15 : decode cc_Ve_init 15 = .ok (.newarray .int, 2) := by decide +kernel
theorem dd_Ve_init_17 : decode cc_Ve_init 17 = .ok (.putfield 15, 3) := by decide +kernel
theorem dd_Ve_init_20 : decode cc_Ve_init 20 = .ok (.aload_n 0, 1) := by decide +kernel
theorem dd_Ve_init_21 : decode cc_Ve_init 21 = .ok (.bipush 90, 2) := by decide +kernel
theorem dd_Ve_init_23 : decode cc_Ve_init 23 = .ok (.newarray .int, 2) := by decide +kernel
theorem dd_Ve_init_25 : decode cc_Ve_init 25 = .ok (.putfield 18, 3) := by decide +kernel
theorem dd_Ve_init_28 : decode cc_Ve_init 28 = .ok (.aload_n 0, 1) := by decide +kernel
theorem dd_Ve_init_29 : decode cc_Ve_init 29 = .ok (.bipush 90, 2) := by decide +kernel
theorem dd_Ve_init_31 : decode cc_Ve_init 31 = .ok (.newarray .int, 2) := by decide +kernel
theorem dd_Ve_init_33 : decode cc_Ve_init 33 = .ok (.putfield 21, 3) := by decide +kernel
theorem dd_Ve_init_36 : decode cc_Ve_init 36 = .ok (.aload_n 0, 1) := by decide +kernel
theorem dd_Ve_init_37 : decode cc_Ve_init 37 = .ok (.bipush 90, 2) := by decide +kernel
theorem dd_Ve_init_39 : decode cc_Ve_init 39 = .ok (.newarray .int, 2) := by decide +kernel
theorem dd_Ve_init_41 : decode cc_Ve_init 41 = .ok (.putfield 24, 3) := by decide +kernel
theorem dd_Ve_init_44 : decode cc_Ve_init 44 = .ok (.return_, 1) := by decide +kernel
theorem dd_Bo_init_0 : decode cc_Bo_init 0 = .ok (.aload_n 0, 1) := by decide +kernel
theorem dd_Bo_init_1 : decode cc_Bo_init 1 = .ok (.invokespecial 3, 3) := by decide +kernel
theorem dd_Bo_init_4 : decode cc_Bo_init 4 = .ok (.aload_n 0, 1) := by decide +kernel
theorem dd_Bo_init_5 : decode cc_Bo_init 5 = .ok (.sipush 802, 3) := by decide +kernel
theorem dd_Bo_init_8 : decode cc_Bo_init 8 = .ok (.newarray .int, 2) := by decide +kernel
theorem dd_Bo_init_10 : decode cc_Bo_init 10 = .ok (.putfield 9, 3) := by decide +kernel
theorem dd_Bo_init_13 : decode cc_Bo_init 13 = .ok (.aload_n 0, 1) := by decide +kernel
theorem dd_Bo_init_14 : decode cc_Bo_init 14 = .ok (.sipush 802, 3) := by decide +kernel
theorem dd_Bo_init_17 : decode cc_Bo_init 17 = .ok (.newarray .int, 2) := by decide +kernel
theorem dd_Bo_init_19 : decode cc_Bo_init 19 = .ok (.putfield 15, 3) := by decide +kernel
theorem dd_Bo_init_22 : decode cc_Bo_init 22 = .ok (.aload_n 0, 1) := by decide +kernel
theorem dd_Bo_init_23 : decode cc_Bo_init 23 = .ok (.sipush 802, 3) := by decide +kernel
theorem dd_Bo_init_26 : decode cc_Bo_init 26 = .ok (.newarray .int, 2) := by decide +kernel
theorem dd_Bo_init_28 : decode cc_Bo_init 28 = .ok (.putfield 18, 3) := by decide +kernel
theorem dd_Bo_init_31 : decode cc_Bo_init 31 = .ok (.return_, 1) := by decide +kernel
theorem dd_Di_init_0 : decode cc_Di_init 0 = .ok (.aload_n 0, 1) := by decide +kernel
theorem dd_Di_init_1 : decode cc_Di_init 1 = .ok (.invokespecial 3, 3) := by decide +kernel
theorem dd_Di_init_4 : decode cc_Di_init 4 = .ok (.aload_n 0, 1) := by decide +kernel
theorem dd_Di_init_5 : decode cc_Di_init 5 = .ok (.bipush 40, 2) := by decide +kernel
theorem dd_Di_init_7 : decode cc_Di_init 7 = .ok (.newarray .int, 2) := by decide +kernel
theorem dd_Di_init_9 : decode cc_Di_init 9 = .ok (.putfield 9, 3) := by decide +kernel
theorem dd_Di_init_12 : decode cc_Di_init 12 = .ok (.aload_n 0, 1) := by decide +kernel
theorem dd_Di_init_13 : decode cc_Di_init 13 = .ok (.iconst 4, 1) := by decide +kernel
theorem dd_Di_init_14 : decode cc_Di_init 14 = .ok (.newarray .int, 2) := by decide +kernel
theorem dd_Di_init_16 : decode cc_Di_init 16 = .ok (.putfield 15, 3) := by decide +kernel
theorem dd_Di_init_19 : decode cc_Di_init 19 = .ok (.aload_n 0, 1) := by decide +kernel
theorem dd_Di_init_20 : decode cc_Di_init 20 = .ok (.iconst 4, 1) := by decide +kernel
theorem dd_Di_init_21 : decode cc_Di_init 21 = .ok (.newarray .int, 2) := by decide +kernel
theorem dd_Di_init_23 : decode cc_Di_init 23 = .ok (.putfield 18, 3) := by decide +kernel
theorem dd_Di_init_26 : decode cc_Di_init 26 = .ok (.return_, 1) := by decide +kernel
theorem dd_No_init_0 : decode cc_No_init 0 = .ok (.aload_n 0, 1) := by decide +kernel
theorem dd_No_init_1 : decode cc_No_init 1 = .ok (.invokespecial 3, 3) := by decide +kernel
theorem dd_No_init_4 : decode cc_No_init 4 = .ok (.aload_n 0, 1) := by decide +kernel
theorem dd_No_init_5 : decode cc_No_init 5 = .ok (.bipush 90, 2) := by decide +kernel
theorem dd_No_init_7 : decode cc_No_init 7 = .ok (.newarray .int, 2) := by decide +kernel
theorem dd_No_init_9 : decode cc_No_init 9 = .ok (.putfield 9, 3) := by decide +kernel
theorem dd_No_init_12 : decode cc_No_init 12 = .ok (.aload_n 0, 1) := by decide +kernel
theorem dd_No_init_13 : decode cc_No_init 13 = .ok (.bipush 90, 2) := by decide +kernel
theorem dd_No_init_15 : decode cc_No_init 15 = .ok (.newarray .int, 2) := by decide +kernel
theorem dd_No_init_17 : decode cc_No_init 17 = .ok (.putfield 15, 3) := by decide +kernel
theorem dd_No_init_20 : decode cc_No_init 20 = .ok (.aload_n 0, 1) := by decide +kernel
theorem dd_No_init_21 : decode cc_No_init 21 = .ok (.bipush 90, 2) := by decide +kernel
theorem dd_No_init_23 : decode cc_No_init 23 = .ok (.newarray .int, 2) := by decide +kernel
theorem dd_No_init_25 : decode cc_No_init 25 = .ok (.putfield 18, 3) := by decide +kernel
theorem dd_No_init_28 : decode cc_No_init 28 = .ok (.return_, 1) := by decide +kernel
theorem dd_Dg_init_0 : decode cc_Dg_init 0 = .ok (.aload_n 0, 1) := by decide +kernel
theorem dd_Dg_init_1 : decode cc_Dg_init 1 = .ok (.invokespecial 3, 3) := by decide +kernel
theorem dd_Dg_init_4 : decode cc_Dg_init 4 = .ok (.aload_n 0, 1) := by decide +kernel
theorem dd_Dg_init_5 : decode cc_Dg_init 5 = .ok (.bipush 64, 2) := by decide +kernel
theorem dd_Dg_init_7 : decode cc_Dg_init 7 = .ok (.newarray .int, 2) := by decide +kernel
theorem dd_Dg_init_9 : decode cc_Dg_init 9 = .ok (.putfield 9, 3) := by decide +kernel
theorem dd_Dg_init_12 : decode cc_Dg_init 12 = .ok (.aload_n 0, 1) := by decide +kernel
theorem dd_Dg_init_13 : decode cc_Dg_init 13 = .ok (.bipush 16, 2) := by decide +kernel
theorem dd_Dg_init_15 : decode cc_Dg_init 15 = .ok (.newarray .int, 2) := by decide +kernel
theorem dd_Dg_init_17 : decode cc_Dg_init 17 = .ok (.putfield 15, 3) := by decide +kernel
theorem dd_Dg_init_20 : decode cc_Dg_init 20 = .ok (.aload_n 0, 1) := by decide +kernel
theorem dd_Dg_init_21 : decode cc_Dg_init 21 = .ok (.aload_n 1, 1) := by decide +kernel
theorem dd_Dg_init_22 : decode cc_Dg_init 22 = .ok (.putfield 18, 3) := by decide +kernel
theorem dd_Dg_init_25 : decode cc_Dg_init 25 = .ok (.aload_n 0, 1) := by decide +kernel
theorem dd_Dg_init_26 : decode cc_Dg_init 26 = .ok (.getfield 9, 3) := by decide +kernel
theorem dd_Dg_init_29 : decode cc_Dg_init 29 = .ok (.iconst (-1), 1) := by decide +kernel
theorem dd_Dg_init_30 : decode cc_Dg_init 30 = .ok (.invokestatic 22, 3) := by decide +kernel
theorem dd_Dg_init_33 : decode cc_Dg_init 33 = .ok (.return_, 1) := by decide +kernel
theorem dd_Ar_fill_0 : decode cc_Ar_fill 0 = .ok (.iconst 0, 1) := by decide +kernel
theorem dd_Ar_fill_1 : decode cc_Ar_fill 1 = .ok (.istore_n 2, 1) := by decide +kernel
theorem dd_Ar_fill_2 : decode cc_Ar_fill 2 = .ok (.aload_n 0, 1) := by decide +kernel
theorem dd_Ar_fill_3 : decode cc_Ar_fill 3 = .ok (.arraylength, 1) := by decide +kernel
theorem dd_Ar_fill_4 : decode cc_Ar_fill 4 = .ok (.istore_n 3, 1) := by decide +kernel
theorem dd_Ar_fill_5 : decode cc_Ar_fill 5 = .ok (.iload_n 2, 1) := by decide +kernel
theorem dd_Ar_fill_6 : decode cc_Ar_fill 6 = .ok (.iload_n 3, 1) := by decide +kernel
theorem dd_Ar_fill_7 : decode cc_Ar_fill 7 = .ok (.if_icmp .ge 13, 3) := by decide +kernel
theorem dd_Ar_fill_10 : decode cc_Ar_fill 10 = .ok (.aload_n 0, 1) := by decide +kernel
theorem dd_Ar_fill_11 : decode cc_Ar_fill 11 = .ok (.iload_n 2, 1) := by decide +kernel
theorem dd_Ar_fill_12 : decode cc_Ar_fill 12 = .ok (.iload_n 1, 1) := by decide +kernel
theorem dd_Ar_fill_13 : decode cc_Ar_fill 13 = .ok (.iastore, 1) := by decide +kernel
theorem dd_Ar_fill_14 : decode cc_Ar_fill 14 = .ok (.iinc 2 1, 3) := by decide +kernel
theorem dd_Ar_fill_17 : decode cc_Ar_fill 17 = .ok (.goto (-12), 3) := by decide +kernel
theorem dd_Ar_fill_20 : decode cc_Ar_fill 20 = .ok (.return_, 1) := by decide +kernel
theorem dd_Bk_init_0 : decode cc_Bk_init 0 = .ok (.aload_n 0, 1) := by decide +kernel
theorem dd_Bk_init_1 : decode cc_Bk_init 1 = .ok (.invokespecial 3, 3) := by decide +kernel
theorem dd_Bk_init_4 : decode cc_Bk_init 4 = .ok (.aload_n 0, 1) := by decide +kernel
theorem dd_Bk_init_5 : decode cc_Bk_init 5 = .ok (.bipush 40, 2) := by decide +kernel
theorem dd_Bk_init_7 : decode cc_Bk_init 7 = .ok (.newarray .int, 2) := by decide +kernel
theorem dd_Bk_init_9 : decode cc_Bk_init 9 = .ok (.putfield 9, 3) := by decide +kernel
theorem dd_Bk_init_12 : decode cc_Bk_init 12 = .ok (.aload_n 0, 1) := by decide +kernel
theorem dd_Bk_init_13 : decode cc_Bk_init 13 = .ok (.iconst 4, 1) := by decide +kernel
theorem dd_Bk_init_14 : decode cc_Bk_init 14 = .ok (.newarray .int, 2) := by decide +kernel
theorem dd_Bk_init_16 : decode cc_Bk_init 16 = .ok (.putfield 15, 3) := by decide +kernel
theorem dd_Bk_init_19 : decode cc_Bk_init 19 = .ok (.aload_n 0, 1) := by decide +kernel
theorem dd_Bk_init_20 : decode cc_Bk_init 20 = .ok (.aload_n 1, 1) := by decide +kernel
theorem dd_Bk_init_21 : decode cc_Bk_init 21 = .ok (.putfield 18, 3) := by decide +kernel
theorem dd_Bk_init_24 : decode cc_Bk_init 24 = .ok (.aload_n 0, 1) := by decide +kernel
theorem dd_Bk_init_25 : decode cc_Bk_init 25 = .ok (.getfield 15, 3) := by decide +kernel
theorem dd_Bk_init_28 : decode cc_Bk_init 28 = .ok (.bipush 100, 2) := by decide +kernel
theorem dd_Bk_init_30 : decode cc_Bk_init 30 = .ok (.invokestatic 22, 3) := by decide +kernel
theorem dd_Bk_init_33 : decode cc_Bk_init 33 = .ok (.return_, 1) := by decide +kernel
theorem dd_Co_init_0 : decode cc_Co_init 0 = .ok (.aload_n 0, 1) := by decide +kernel
theorem dd_Co_init_1 : decode cc_Co_init 1 = .ok (.invokespecial 3, 3) := by decide +kernel
theorem dd_Co_init_4 : decode cc_Co_init 4 = .ok (.aload_n 0, 1) := by decide +kernel
theorem dd_Co_init_5 : decode cc_Co_init 5 = .ok (.bipush 15, 2) := by decide +kernel
theorem dd_Co_init_7 : decode cc_Co_init 7 = .ok (.newarray .int, 2) := by decide +kernel
theorem dd_Co_init_9 : decode cc_Co_init 9 = .ok (.putfield 9, 3) := by decide +kernel
theorem dd_Co_init_12 : decode cc_Co_init 12 = .ok (.aload_n 0, 1) := by decide +kernel
theorem dd_Co_init_13 : decode cc_Co_init 13 = .ok (.bipush 15, 2) := by decide +kernel
theorem dd_Co_init_15 : decode cc_Co_init 15 = .ok (.newarray .int, 2) := by decide +kernel
theorem dd_Co_init_17 : decode cc_Co_init 17 = .ok (.putfield 15, 3) := by decide +kernel
theorem dd_Co_init_20 : decode cc_Co_init 20 = .ok (.aload_n 0, 1) := by decide +kernel
theorem dd_Co_init_21 : decode cc_Co_init 21 = .ok (.aload_n 1, 1) := by decide +kernel
theorem dd_Co_init_22 : decode cc_Co_init 22 = .ok (.putfield 18, 3) := by decide +kernel
theorem dd_Co_init_25 : decode cc_Co_init 25 = .ok (.aload_n 0, 1) := by decide +kernel
theorem dd_Co_init_26 : decode cc_Co_init 26 = .ok (.aload_n 2, 1) := by decide +kernel
theorem dd_Co_init_27 : decode cc_Co_init 27 = .ok (.putfield 22, 3) := by decide +kernel
theorem dd_Co_init_30 : decode cc_Co_init 30 = .ok (.aload_n 0, 1) := by decide +kernel
theorem dd_Co_init_31 : decode cc_Co_init 31 = .ok (.aload_n 3, 1) := by decide +kernel
theorem dd_Co_init_32 : decode cc_Co_init 32 = .ok (.putfield 26, 3) := by decide +kernel
theorem dd_Co_init_35 : decode cc_Co_init 35 = .ok (.return_, 1) := by decide +kernel
theorem dd_Tr_has_0 : decode cc_Tr_has 0 = .ok (.iload_n 1, 1) := by decide +kernel
theorem dd_Tr_has_1 : decode cc_Tr_has 1 = .ok (.ifCond .lt 15, 3) := by decide +kernel
theorem dd_Tr_has_4 : decode cc_Tr_has 4 = .ok (.iload_n 1, 1) := by decide +kernel
theorem dd_Tr_has_5 : decode cc_Tr_has 5 = .ok (.aload_n 0, 1) := by decide +kernel
theorem dd_Tr_has_6 : decode cc_Tr_has 6 = .ok (.getfield 21, 3) := by decide +kernel
theorem dd_Tr_has_9 : decode cc_Tr_has 9 = .ok (.if_icmp .ge 7, 3) := by decide +kernel
theorem dd_Tr_has_12 : decode cc_Tr_has 12 = .ok (.iconst 1, 1) := by decide +kernel
theorem dd_Tr_has_13 : decode cc_Tr_has 13 = .ok (.goto 4, 3) := by decide +kernel
theorem dd_Tr_has_16 : decode cc_Tr_has 16 = .ok (.iconst 0, 1) := by decide +kernel
theorem dd_Tr_has_17 : decode cc_Tr_has 17 = .ok (.ireturn, 1) := by decide +kernel
theorem dd_Ve_isFull_0 : decode cc_Ve_isFull 0 = .ok (.aload_n 0, 1) := by decide +kernel
theorem dd_Ve_isFull_1 : decode cc_Ve_isFull 1 = .ok (.getfield 27, 3) := by decide +kernel
theorem dd_Ve_isFull_4 : decode cc_Ve_isFull 4 = .ok (.bipush 90, 2) := by decide +kernel
theorem dd_Ve_isFull_6 : decode cc_Ve_isFull 6 = .ok (.if_icmp .lt 7, 3) := by decide +kernel
theorem dd_Ve_isFull_9 : decode cc_Ve_isFull 9 = .ok (.iconst 1, 1) := by decide +kernel
theorem dd_Ve_isFull_10 : decode cc_Ve_isFull 10 = .ok (.goto 4, 3) := by decide +kernel
theorem dd_Ve_isFull_13 : decode cc_Ve_isFull 13 = .ok (.iconst 0, 1) := by decide +kernel
theorem dd_Ve_isFull_14 : decode cc_Ve_isFull 14 = .ok (.ireturn, 1) := by decide +kernel
theorem dd_Bo_isFull_0 : decode cc_Bo_isFull 0 = .ok (.aload_n 0, 1) := by decide +kernel
theorem dd_Bo_isFull_1 : decode cc_Bo_isFull 1 = .ok (.getfield 21, 3) := by decide +kernel
theorem dd_Bo_isFull_4 : decode cc_Bo_isFull 4 = .ok (.sipush 800, 3) := by decide +kernel
theorem dd_Bo_isFull_7 : decode cc_Bo_isFull 7 = .ok (.if_icmp .lt 7, 3) := by decide +kernel
theorem dd_Bo_isFull_10 : decode cc_Bo_isFull 10 = .ok (.iconst 1, 1) := by decide +kernel
theorem dd_Bo_isFull_11 : decode cc_Bo_isFull 11 = .ok (.goto 4, 3) := by decide +kernel
theorem dd_Bo_isFull_14 : decode cc_Bo_isFull 14 = .ok (.iconst 0, 1) := by decide +kernel
theorem dd_Bo_isFull_15 : decode cc_Bo_isFull 15 = .ok (.ireturn, 1) := by decide +kernel
theorem dd_Ve_add_0 : decode cc_Ve_add 0 = .ok (.aload_n 0, 1) := by decide +kernel
theorem dd_Ve_add_1 : decode cc_Ve_add 1 = .ok (.getfield 9, 3) := by decide +kernel
theorem dd_Ve_add_4 : decode cc_Ve_add 4 = .ok (.aload_n 0, 1) := by decide +kernel
theorem dd_Ve_add_5 : decode cc_Ve_add 5 = .ok (.getfield 27, 3) := by decide +kernel
theorem dd_Ve_add_8 : decode cc_Ve_add 8 = .ok (.iload_n 1, 1) := by decide +kernel
theorem dd_Ve_add_9 : decode cc_Ve_add 9 = .ok (.iastore, 1) := by decide +kernel
theorem dd_Ve_add_10 : decode cc_Ve_add 10 = .ok (.aload_n 0, 1) := by decide +kernel
theorem dd_Ve_add_11 : decode cc_Ve_add 11 = .ok (.getfield 15, 3) := by decide +kernel
theorem dd_Ve_add_14 : decode cc_Ve_add 14 = .ok (.aload_n 0, 1) := by decide +kernel
theorem dd_Ve_add_15 : decode cc_Ve_add 15 = .ok (.getfield 27, 3) := by decide +kernel
theorem dd_Ve_add_18 : decode cc_Ve_add 18 = .ok (.iload_n 2, 1) := by decide +kernel
theorem dd_Ve_add_19 : decode cc_Ve_add 19 = .ok (.iastore, 1) := by decide +kernel
theorem dd_Ve_add_20 : decode cc_Ve_add 20 = .ok (.aload_n 0, 1) := by decide +kernel
theorem dd_Ve_add_21 : decode cc_Ve_add 21 = .ok (.getfield 18, 3) := by decide +kernel
theorem dd_Ve_add_24 : decode cc_Ve_add 24 = .ok (.aload_n 0, 1) := by decide +kernel
theorem dd_Ve_add_25 : decode cc_Ve_add 25 = .ok (.getfield 27, 3) := by decide +kernel
theorem dd_Ve_add_28 : decode cc_Ve_add 28 = .ok (.iload_n 3, 1) := by decide +kernel
theorem dd_Ve_add_29 : decode cc_Ve_add 29 = .ok (.iastore, 1) := by decide +kernel
theorem dd_Ve_add_30 : decode cc_Ve_add 30 = .ok (.aload_n 0, 1) := by decide +kernel
theorem dd_Ve_add_31 : decode cc_Ve_add 31 = .ok (.getfield 21, 3) := by decide +kernel
theorem dd_Ve_add_34 : decode cc_Ve_add 34 = .ok (.aload_n 0, 1) := by decide +kernel
theorem dd_Ve_add_35 : decode cc_Ve_add 35 = .ok (.getfield 27, 3) := by decide +kernel
theorem dd_Ve_add_38 : decode cc_Ve_add 38 = .ok (.iload 4, 2) := by decide +kernel
theorem dd_Ve_add_40 : decode cc_Ve_add 40 = .ok (.iastore, 1) := by decide +kernel
theorem dd_Ve_add_41 : decode cc_Ve_add 41 = .ok (.aload_n 0, 1) := by decide +kernel
theorem dd_Ve_add_42 : decode cc_Ve_add 42 = .ok (.getfield 24, 3) := by decide +kernel
theorem dd_Ve_add_45 : decode cc_Ve_add 45 = .ok (.aload_n 0, 1) := by decide +kernel
theorem dd_Ve_add_46 : decode cc_Ve_add 46 = .ok (.getfield 27, 3) := by decide +kernel
theorem dd_Ve_add_49 : decode cc_Ve_add 49 = .ok (.iload 5, 2) := by decide +kernel
theorem dd_Ve_add_51 : decode cc_Ve_add 51 = .ok (.iastore, 1) := by decide +kernel
theorem dd_Ve_add_52 : decode cc_Ve_add 52 = .ok (.aload_n 0, 1) := by decide +kernel
theorem dd_Ve_add_53 : decode cc_Ve_add 53 = .ok (.dup, 1) := by decide +kernel
theorem dd_Ve_add_54 : decode cc_Ve_add 54 = .ok (.getfield 27, 3) := by decide +kernel
theorem dd_Ve_add_57 : decode cc_Ve_add 57 = .ok (.iconst 1, 1) := by decide +kernel
theorem dd_Ve_add_58 : decode cc_Ve_add 58 = .ok (.iadd, 1) := by decide +kernel
theorem dd_Ve_add_59 : decode cc_Ve_add 59 = .ok (.putfield 27, 3) := by decide +kernel
theorem dd_Ve_add_62 : decode cc_Ve_add 62 = .ok (.aload_n 0, 1) := by decide +kernel
theorem dd_Ve_add_63 : decode cc_Ve_add 63 = .ok (.getfield 27, 3) := by decide +kernel
theorem dd_Ve_add_66 : decode cc_Ve_add 66 = .ok (.iconst 1, 1) := by decide +kernel
theorem dd_Ve_add_67 : decode cc_Ve_add 67 = .ok (.isub, 1) := by decide +kernel
theorem dd_Ve_add_68 : decode cc_Ve_add 68 = .ok (.ireturn, 1) := by decide +kernel
theorem dd_Bo_post_0 : decode cc_Bo_post 0 = .ok (.aload_n 0, 1) := by decide +kernel
theorem dd_Bo_post_1 : decode cc_Bo_post 1 = .ok (.getfield 9, 3) := by decide +kernel
theorem dd_Bo_post_4 : decode cc_Bo_post 4 = .ok (.aload_n 0, 1) := by decide +kernel
theorem dd_Bo_post_5 : decode cc_Bo_post 5 = .ok (.getfield 21, 3) := by decide +kernel
theorem dd_Bo_post_8 : decode cc_Bo_post 8 = .ok (.iload_n 1, 1) := by decide +kernel
theorem dd_Bo_post_9 : decode cc_Bo_post 9 = .ok (.iastore, 1) := by decide +kernel
theorem dd_Bo_post_10 : decode cc_Bo_post 10 = .ok (.aload_n 0, 1) := by decide +kernel
theorem dd_Bo_post_11 : decode cc_Bo_post 11 = .ok (.getfield 15, 3) := by decide +kernel
theorem dd_Bo_post_14 : decode cc_Bo_post 14 = .ok (.aload_n 0, 1) := by decide +kernel
theorem dd_Bo_post_15 : decode cc_Bo_post 15 = .ok (.getfield 21, 3) := by decide +kernel
theorem dd_Bo_post_18 : decode cc_Bo_post 18 = .ok (.iload_n 2, 1) := by decide +kernel
theorem dd_Bo_post_19 : decode cc_Bo_post 19 = .ok (.iastore, 1) := by decide +kernel
theorem dd_Bo_post_20 : decode cc_Bo_post 20 = .ok (.aload_n 0, 1) := by decide +kernel
theorem dd_Bo_post_21 : decode cc_Bo_post 21 = .ok (.getfield 18, 3) := by decide +kernel
theorem dd_Bo_post_24 : decode cc_Bo_post 24 = .ok (.aload_n 0, 1) := by decide +kernel
theorem dd_Bo_post_25 : decode cc_Bo_post 25 = .ok (.getfield 21, 3) := by decide +kernel
theorem dd_Bo_post_28 : decode cc_Bo_post 28 = .ok (.iload_n 3, 1) := by decide +kernel
theorem dd_Bo_post_29 : decode cc_Bo_post 29 = .ok (.iastore, 1) := by decide +kernel
theorem dd_Bo_post_30 : decode cc_Bo_post 30 = .ok (.aload_n 0, 1) := by decide +kernel
theorem dd_Bo_post_31 : decode cc_Bo_post 31 = .ok (.dup, 1) := by decide +kernel
theorem dd_Bo_post_32 : decode cc_Bo_post 32 = .ok (.getfield 21, 3) := by decide +kernel
theorem dd_Bo_post_35 : decode cc_Bo_post 35 = .ok (.iconst 1, 1) := by decide +kernel
theorem dd_Bo_post_36 : decode cc_Bo_post 36 = .ok (.iadd, 1) := by decide +kernel
theorem dd_Bo_post_37 : decode cc_Bo_post 37 = .ok (.putfield 21, 3) := by decide +kernel
theorem dd_Bo_post_40 : decode cc_Bo_post 40 = .ok (.aload_n 0, 1) := by decide +kernel
theorem dd_Bo_post_41 : decode cc_Bo_post 41 = .ok (.getfield 21, 3) := by decide +kernel
theorem dd_Bo_post_44 : decode cc_Bo_post 44 = .ok (.iconst 1, 1) := by decide +kernel
theorem dd_Bo_post_45 : decode cc_Bo_post 45 = .ok (.isub, 1) := by decide +kernel
theorem dd_Bo_post_46 : decode cc_Bo_post 46 = .ok (.ireturn, 1) := by decide +kernel
theorem dd_Ve_has_0 : decode cc_Ve_has 0 = .ok (.iload_n 1, 1) := by decide +kernel
theorem dd_Ve_has_1 : decode cc_Ve_has 1 = .ok (.ifCond .lt 15, 3) := by decide +kernel
theorem dd_Ve_has_4 : decode cc_Ve_has 4 = .ok (.iload_n 1, 1) := by decide +kernel
theorem dd_Ve_has_5 : decode cc_Ve_has 5 = .ok (.aload_n 0, 1) := by decide +kernel
theorem dd_Ve_has_6 : decode cc_Ve_has 6 = .ok (.getfield 27, 3) := by decide +kernel
theorem dd_Ve_has_9 : decode cc_Ve_has 9 = .ok (.if_icmp .ge 7, 3) := by decide +kernel
theorem dd_Ve_has_12 : decode cc_Ve_has 12 = .ok (.iconst 1, 1) := by decide +kernel
theorem dd_Ve_has_13 : decode cc_Ve_has 13 = .ok (.goto 4, 3) := by decide +kernel
theorem dd_Ve_has_16 : decode cc_Ve_has 16 = .ok (.iconst 0, 1) := by decide +kernel
theorem dd_Ve_has_17 : decode cc_Ve_has 17 = .ok (.ireturn, 1) := by decide +kernel
theorem dd_Bo_has_0 : decode cc_Bo_has 0 = .ok (.iload_n 1, 1) := by decide +kernel
theorem dd_Bo_has_1 : decode cc_Bo_has 1 = .ok (.ifCond .lt 15, 3) := by decide +kernel
theorem dd_Bo_has_4 : decode cc_Bo_has 4 = .ok (.iload_n 1, 1) := by decide +kernel
theorem dd_Bo_has_5 : decode cc_Bo_has 5 = .ok (.aload_n 0, 1) := by decide +kernel
theorem dd_Bo_has_6 : decode cc_Bo_has 6 = .ok (.getfield 21, 3) := by decide +kernel
theorem dd_Bo_has_9 : decode cc_Bo_has 9 = .ok (.if_icmp .ge 7, 3) := by decide +kernel
theorem dd_Bo_has_12 : decode cc_Bo_has 12 = .ok (.iconst 1, 1) := by decide +kernel
theorem dd_Bo_has_13 : decode cc_Bo_has 13 = .ok (.goto 4, 3) := by decide +kernel
theorem dd_Bo_has_16 : decode cc_Bo_has 16 = .ok (.iconst 0, 1) := by decide +kernel
theorem dd_Bo_has_17 : decode cc_Bo_has 17 = .ok (.ireturn, 1) := by decide +kernel
theorem dd_Tr_isFull_0 : decode cc_Tr_isFull 0 = .ok (.aload_n 0, 1) := by decide +kernel
theorem dd_Tr_isFull_1 : decode cc_Tr_isFull 1 = .ok (.getfield 21, 3) := by decide +kernel
theorem dd_Tr_isFull_4 : decode cc_Tr_isFull 4 = .ok (.bipush 40, 2) := by decide +kernel
theorem dd_Tr_isFull_6 : decode cc_Tr_isFull 6 = .ok (.if_icmp .lt 7, 3) := by decide +kernel
theorem dd_Tr_isFull_9 : decode cc_Tr_isFull 9 = .ok (.iconst 1, 1) := by decide +kernel
theorem dd_Tr_isFull_10 : decode cc_Tr_isFull 10 = .ok (.goto 4, 3) := by decide +kernel
theorem dd_Tr_isFull_13 : decode cc_Tr_isFull 13 = .ok (.iconst 0, 1) := by decide +kernel
theorem dd_Tr_isFull_14 : decode cc_Tr_isFull 14 = .ok (.ireturn, 1) := by decide +kernel
theorem dd_No_clear_0 : decode cc_No_clear 0 = .ok (.aload_n 0, 1) := by decide +kernel
theorem dd_No_clear_1 : decode cc_No_clear 1 = .ok (.getfield 9, 3) := by decide +kernel
theorem dd_No_clear_4 : decode cc_No_clear 4 = .ok (.iconst 0, 1) := by decide +kernel
theorem dd_No_clear_5 : decode cc_No_clear 5 = .ok (.invokestatic 31, 3) := by decide +kernel
theorem dd_No_clear_8 : decode cc_No_clear 8 = .ok (.aload_n 0, 1) := by decide +kernel
theorem dd_No_clear_9 : decode cc_No_clear 9 = .ok (.getfield 15, 3) := by decide +kernel
theorem dd_No_clear_12 : decode cc_No_clear 12 = .ok (.iconst 0, 1) := by decide +kernel
theorem dd_No_clear_13 : decode cc_No_clear 13 = .ok (.invokestatic 31, 3) := by decide +kernel
theorem dd_No_clear_16 : decode cc_No_clear 16 = .ok (.aload_n 0, 1) := by decide +kernel
theorem dd_No_clear_17 : decode cc_No_clear 17 = .ok (.iconst 0, 1) := by decide +kernel
theorem dd_No_clear_18 : decode cc_No_clear 18 = .ok (.putfield 27, 3) := by decide +kernel
theorem dd_No_clear_21 : decode cc_No_clear 21 = .ok (.return_, 1) := by decide +kernel
theorem dd_Dg_clear_0 : decode cc_Dg_clear 0 = .ok (.aload_n 0, 1) := by decide +kernel
theorem dd_Dg_clear_1 : decode cc_Dg_clear 1 = .ok (.getfield 9, 3) := by decide +kernel
theorem dd_Dg_clear_4 : decode cc_Dg_clear 4 = .ok (.iconst (-1), 1) := by decide +kernel
theorem dd_Dg_clear_5 : decode cc_Dg_clear 5 = .ok (.invokestatic 22, 3) := by decide +kernel
theorem dd_Dg_clear_8 : decode cc_Dg_clear 8 = .ok (.aload_n 0, 1) := by decide +kernel
theorem dd_Dg_clear_9 : decode cc_Dg_clear 9 = .ok (.getfield 15, 3) := by decide +kernel
theorem dd_Dg_clear_12 : decode cc_Dg_clear 12 = .ok (.iconst 0, 1) := by decide +kernel
theorem dd_Dg_clear_13 : decode cc_Dg_clear 13 = .ok (.invokestatic 22, 3) := by decide +kernel
theorem dd_Dg_clear_16 : decode cc_Dg_clear 16 = .ok (.aload_n 0, 1) := by decide +kernel
theorem dd_Dg_clear_17 : decode cc_Dg_clear 17 = .ok (.iconst 0, 1) := by decide +kernel
theorem dd_Dg_clear_18 : decode cc_Dg_clear 18 = .ok (.putfield 47, 3) := by decide +kernel
theorem dd_Dg_clear_21 : decode cc_Dg_clear 21 = .ok (.return_, 1) := by decide +kernel
theorem dd_Co_clear_0 : decode cc_Co_clear 0 = .ok (.aload_n 0, 1) := by decide +kernel
theorem dd_Co_clear_1 : decode cc_Co_clear 1 = .ok (.getfield 9, 3) := by decide +kernel
theorem dd_Co_clear_4 : decode cc_Co_clear 4 = .ok (.iconst 0, 1) := by decide +kernel
theorem dd_Co_clear_5 : decode cc_Co_clear 5 = .ok (.invokestatic 85, 3) := by decide +kernel
theorem dd_Co_clear_8 : decode cc_Co_clear 8 = .ok (.aload_n 0, 1) := by decide +kernel
theorem dd_Co_clear_9 : decode cc_Co_clear 9 = .ok (.iconst 0, 1) := by decide +kernel
theorem dd_Co_clear_10 : decode cc_Co_clear 10 = .ok (.putfield 38, 3) := by decide +kernel
theorem dd_Co_clear_13 : decode cc_Co_clear 13 = .ok (.return_, 1) := by decide +kernel
theorem dd_Bk_clear_0 : decode cc_Bk_clear 0 = .ok (.aload_n 0, 1) := by decide +kernel
theorem dd_Bk_clear_1 : decode cc_Bk_clear 1 = .ok (.getfield 15, 3) := by decide +kernel
theorem dd_Bk_clear_4 : decode cc_Bk_clear 4 = .ok (.iconst 0, 1) := by decide +kernel
theorem dd_Bk_clear_5 : decode cc_Bk_clear 5 = .ok (.invokestatic 22, 3) := by decide +kernel
theorem dd_Bk_clear_8 : decode cc_Bk_clear 8 = .ok (.aload_n 0, 1) := by decide +kernel
theorem dd_Bk_clear_9 : decode cc_Bk_clear 9 = .ok (.iconst 0, 1) := by decide +kernel
theorem dd_Bk_clear_10 : decode cc_Bk_clear 10 = .ok (.putfield 32, 3) := by decide +kernel
theorem dd_Bk_clear_13 : decode cc_Bk_clear 13 = .ok (.aload_n 0, 1) := by decide +kernel
theorem dd_Bk_clear_14 : decode cc_Bk_clear 14 = .ok (.lconst 0, 1) := by decide +kernel
theorem dd_Bk_clear_15 : decode cc_Bk_clear 15 = .ok (.putfield 28, 3) := by decide +kernel
theorem dd_Bk_clear_18 : decode cc_Bk_clear 18 = .ok (.return_, 1) := by decide +kernel
theorem dd_Tr_add_0 : decode cc_Tr_add 0 = .ok (.aload_n 0, 1) := by decide +kernel
theorem dd_Tr_add_1 : decode cc_Tr_add 1 = .ok (.getfield 9, 3) := by decide +kernel
theorem dd_Tr_add_4 : decode cc_Tr_add 4 = .ok (.aload_n 0, 1) := by decide +kernel
theorem dd_Tr_add_5 : decode cc_Tr_add 5 = .ok (.getfield 21, 3) := by decide +kernel
theorem dd_Tr_add_8 : decode cc_Tr_add 8 = .ok (.iload_n 1, 1) := by decide +kernel
theorem dd_Tr_add_9 : decode cc_Tr_add 9 = .ok (.iastore, 1) := by decide +kernel
theorem dd_Tr_add_10 : decode cc_Tr_add 10 = .ok (.aload_n 0, 1) := by decide +kernel
theorem dd_Tr_add_11 : decode cc_Tr_add 11 = .ok (.getfield 15, 3) := by decide +kernel
theorem dd_Tr_add_14 : decode cc_Tr_add 14 = .ok (.aload_n 0, 1) := by decide +kernel
theorem dd_Tr_add_15 : decode cc_Tr_add 15 = .ok (.getfield 21, 3) := by decide +kernel
theorem dd_Tr_add_18 : decode cc_Tr_add 18 = .ok (.iload_n 2, 1) := by decide +kernel
theorem dd_Tr_add_19 : decode cc_Tr_add 19 = .ok (.iastore, 1) := by decide +kernel
theorem dd_Tr_add_20 : decode cc_Tr_add 20 = .ok (.aload_n 0, 1) := by decide +kernel
theorem dd_Tr_add_21 : decode cc_Tr_add 21 = .ok (.getfield 18, 3) := by decide +kernel
theorem dd_Tr_add_24 : decode cc_Tr_add 24 = .ok (.aload_n 0, 1) := by decide +kernel
theorem dd_Tr_add_25 : decode cc_Tr_add 25 = .ok (.getfield 21, 3) := by decide +kernel
theorem dd_Tr_add_28 : decode cc_Tr_add 28 = .ok (.iload_n 3, 1) := by decide +kernel
theorem dd_Tr_add_29 : decode cc_Tr_add 29 = .ok (.iastore, 1) := by decide +kernel
theorem dd_Tr_add_30 : decode cc_Tr_add 30 = .ok (.aload_n 0, 1) := by decide +kernel
theorem dd_Tr_add_31 : decode cc_Tr_add 31 = .ok (.dup, 1) := by decide +kernel
theorem dd_Tr_add_32 : decode cc_Tr_add 32 = .ok (.getfield 21, 3) := by decide +kernel
theorem dd_Tr_add_35 : decode cc_Tr_add 35 = .ok (.iconst 1, 1) := by decide +kernel
theorem dd_Tr_add_36 : decode cc_Tr_add 36 = .ok (.iadd, 1) := by decide +kernel
theorem dd_Tr_add_37 : decode cc_Tr_add 37 = .ok (.putfield 21, 3) := by decide +kernel
theorem dd_Tr_add_40 : decode cc_Tr_add 40 = .ok (.aload_n 0, 1) := by decide +kernel
theorem dd_Tr_add_41 : decode cc_Tr_add 41 = .ok (.getfield 21, 3) := by decide +kernel
theorem dd_Tr_add_44 : decode cc_Tr_add 44 = .ok (.iconst 1, 1) := by decide +kernel
theorem dd_Tr_add_45 : decode cc_Tr_add 45 = .ok (.isub, 1) := by decide +kernel
theorem dd_Tr_add_46 : decode cc_Tr_add 46 = .ok (.ireturn, 1) := by decide +kernel
theorem dd_Di_keepTransfer_0 : decode cc_Di_keepTransfer 0 = .ok (.aload_n 0, 1) := by decide +kernel
theorem dd_Di_keepTransfer_1 : decode cc_Di_keepTransfer 1 = .ok (.getfield 9, 3) := by decide +kernel
theorem dd_Di_keepTransfer_4 : decode cc_Di_keepTransfer 4 = .ok (.aload_n 0, 1) := by decide +kernel
theorem dd_Di_keepTransfer_5 : decode cc_Di_keepTransfer 5 = .ok (.getfield 21, 3) := by decide +kernel
theorem dd_Di_keepTransfer_8 : decode cc_Di_keepTransfer 8 = .ok (.iload_n 1, 1) := by decide +kernel
theorem dd_Di_keepTransfer_9 : decode cc_Di_keepTransfer 9 = .ok (.iastore, 1) := by decide +kernel
theorem dd_Di_keepTransfer_10 : decode cc_Di_keepTransfer 10 = .ok (.aload_n 0, 1) := by decide +kernel
theorem dd_Di_keepTransfer_11 : decode cc_Di_keepTransfer 11 = .ok (.dup, 1) := by decide +kernel
theorem dd_Di_keepTransfer_12 : decode cc_Di_keepTransfer 12 = .ok (.getfield 21, 3) := by decide +kernel
theorem dd_Di_keepTransfer_15 : decode cc_Di_keepTransfer 15 = .ok (.iconst 1, 1) := by decide +kernel
theorem dd_Di_keepTransfer_16 : decode cc_Di_keepTransfer 16 = .ok (.iadd, 1) := by decide +kernel
theorem dd_Di_keepTransfer_17 : decode cc_Di_keepTransfer 17 = .ok (.putfield 21, 3) := by decide +kernel
theorem dd_Di_keepTransfer_20 : decode cc_Di_keepTransfer 20 = .ok (.return_, 1) := by decide +kernel
theorem dd_Ve_isWellFormed_0 : decode cc_Ve_isWellFormed 0 = .ok (.aload_n 0, 1) := by decide +kernel
theorem dd_Ve_isWellFormed_1 : decode cc_Ve_isWellFormed 1 = .ok (.getfield 15, 3) := by decide +kernel
theorem dd_Ve_isWellFormed_4 : decode cc_Ve_isWellFormed 4 = .ok (.iload_n 1, 1) := by decide +kernel
theorem dd_Ve_isWellFormed_5 : decode cc_Ve_isWellFormed 5 = .ok (.iaload, 1) := by decide +kernel
theorem dd_Ve_isWellFormed_6 : decode cc_Ve_isWellFormed 6 = .ok (.iconst 1, 1) := by decide +kernel
theorem dd_Ve_isWellFormed_7 : decode cc_Ve_isWellFormed 7 = .ok (.if_icmp .ne 18, 3) := by decide +kernel
theorem dd_Ve_isWellFormed_10 : decode cc_Ve_isWellFormed 10 = .ok (.aload_n 0, 1) := by decide +kernel
theorem dd_Ve_isWellFormed_11 : decode cc_Ve_isWellFormed 11 = .ok (.getfield 18, 3) := by decide +kernel
theorem dd_Ve_isWellFormed_14 : decode cc_Ve_isWellFormed 14 = .ok (.iload_n 1, 1) := by decide +kernel
theorem dd_Ve_isWellFormed_15 : decode cc_Ve_isWellFormed 15 = .ok (.iaload, 1) := by decide +kernel
theorem dd_Ve_isWellFormed_16 : decode cc_Ve_isWellFormed 16 = .ok (.ifCond .ne 7, 3) := by decide +kernel
theorem dd_Ve_isWellFormed_19 : decode cc_Ve_isWellFormed 19 = .ok (.iconst 1, 1) := by decide +kernel
theorem dd_Ve_isWellFormed_20 : decode cc_Ve_isWellFormed 20 = .ok (.goto 4, 3) := by decide +kernel
theorem dd_Ve_isWellFormed_23 : decode cc_Ve_isWellFormed 23 = .ok (.iconst 0, 1) := by decide +kernel
theorem dd_Ve_isWellFormed_24 : decode cc_Ve_isWellFormed 24 = .ok (.ireturn, 1) := by decide +kernel
theorem dd_Ve_isWellFormed_25 : decode cc_Ve_isWellFormed 25 = .ok (.aload_n 0, 1) := by decide +kernel
theorem dd_Ve_isWellFormed_26 : decode cc_Ve_isWellFormed 26 = .ok (.getfield 18, 3) := by decide +kernel
theorem dd_Ve_isWellFormed_29 : decode cc_Ve_isWellFormed 29 = .ok (.iload_n 1, 1) := by decide +kernel
theorem dd_Ve_isWellFormed_30 : decode cc_Ve_isWellFormed 30 = .ok (.iaload, 1) := by decide +kernel
theorem dd_Ve_isWellFormed_31 : decode cc_Ve_isWellFormed 31 = .ok (.invokestatic 31, 3) := by decide +kernel
theorem dd_Ve_isWellFormed_34 : decode cc_Ve_isWellFormed 34 = .ok (.iconst 3, 1) := by decide +kernel
theorem dd_Ve_isWellFormed_35 : decode cc_Ve_isWellFormed 35 = .ok (.if_icmp .lt 7, 3) := by decide +kernel
theorem dd_Ve_isWellFormed_38 : decode cc_Ve_isWellFormed 38 = .ok (.iconst 1, 1) := by decide +kernel
theorem dd_Ve_isWellFormed_39 : decode cc_Ve_isWellFormed 39 = .ok (.goto 4, 3) := by decide +kernel
theorem dd_Ve_isWellFormed_42 : decode cc_Ve_isWellFormed 42 = .ok (.iconst 0, 1) := by decide +kernel
theorem dd_Ve_isWellFormed_43 : decode cc_Ve_isWellFormed 43 = .ok (.ireturn, 1) := by decide +kernel
theorem dd_In_bitCount_0 : decode cc_In_bitCount 0 = .ok (.iload_n 0, 1) := by decide +kernel
theorem dd_In_bitCount_1 : decode cc_In_bitCount 1 = .ok (.iload_n 0, 1) := by decide +kernel
theorem dd_In_bitCount_2 : decode cc_In_bitCount 2 = .ok (.iconst 1, 1) := by decide +kernel
theorem dd_In_bitCount_3 : decode cc_In_bitCount 3 = .ok (.iushr, 1) := by decide +kernel
theorem dd_In_bitCount_4 : decode cc_In_bitCount 4 = .ok (.ldc_w 265, 3) := by decide +kernel
theorem dd_In_bitCount_7 : decode cc_In_bitCount 7 = .ok (.iand, 1) := by decide +kernel
theorem dd_In_bitCount_8 : decode cc_In_bitCount 8 = .ok (.isub, 1) := by decide +kernel
theorem dd_In_bitCount_9 : decode cc_In_bitCount 9 = .ok (.istore_n 0, 1) := by decide +kernel
theorem dd_In_bitCount_10 : decode cc_In_bitCount 10 = .ok (.iload_n 0, 1) := by decide +kernel
theorem dd_In_bitCount_11 : decode cc_In_bitCount 11 = .ok (.ldc_w 266, 3) := by decide +kernel
theorem dd_In_bitCount_14 : decode cc_In_bitCount 14 = .ok (.iand, 1) := by decide +kernel
theorem dd_In_bitCount_15 : decode cc_In_bitCount 15 = .ok (.iload_n 0, 1) := by decide +kernel
theorem dd_In_bitCount_16 : decode cc_In_bitCount 16 = .ok (.iconst 2, 1) := by decide +kernel
theorem dd_In_bitCount_17 : decode cc_In_bitCount 17 = .ok (.iushr, 1) := by decide +kernel
theorem dd_In_bitCount_18 : decode cc_In_bitCount 18 = .ok (.ldc_w 266, 3) := by decide +kernel
theorem dd_In_bitCount_21 : decode cc_In_bitCount 21 = .ok (.iand, 1) := by decide +kernel
theorem dd_In_bitCount_22 : decode cc_In_bitCount 22 = .ok (.iadd, 1) := by decide +kernel
theorem dd_In_bitCount_23 : decode cc_In_bitCount 23 = .ok (.istore_n 0, 1) := by decide +kernel
theorem dd_In_bitCount_24 : decode cc_In_bitCount 24 = .ok (.iload_n 0, 1) := by decide +kernel
theorem dd_In_bitCount_25 : decode cc_In_bitCount 25 = .ok (.iload_n 0, 1) := by decide +kernel
theorem dd_In_bitCount_26 : decode cc_In_bitCount 26 = .ok (.iconst 4, 1) := by decide +kernel
theorem dd_In_bitCount_27 : decode cc_In_bitCount 27 = .ok (.iushr, 1) := by decide +kernel
theorem dd_In_bitCount_28 : decode cc_In_bitCount 28 = .ok (.iadd, 1) := by decide +kernel
theorem dd_In_bitCount_29 : decode cc_In_bitCount 29 = .ok (.ldc_w 267, 3) := by decide +kernel
theorem dd_In_bitCount_32 : decode cc_In_bitCount 32 = .ok (.iand, 1) := by decide +kernel
theorem dd_In_bitCount_33 : decode cc_In_bitCount 33 = .ok (.istore_n 0, 1) := by decide +kernel
theorem dd_In_bitCount_34 : decode cc_In_bitCount 34 = .ok (.iload_n 0, 1) := by decide +kernel
theorem dd_In_bitCount_35 : decode cc_In_bitCount 35 = .ok (.iload_n 0, 1) := by decide +kernel
theorem dd_In_bitCount_36 : decode cc_In_bitCount 36 = .ok (.bipush 8, 2) := by decide +kernel
theorem dd_In_bitCount_38 : decode cc_In_bitCount 38 = .ok (.iushr, 1) := by decide +kernel
theorem dd_In_bitCount_39 : decode cc_In_bitCount 39 = .ok (.iadd, 1) := by decide +kernel
theorem dd_In_bitCount_40 : decode cc_In_bitCount 40 = .ok (.istore_n 0, 1) := by decide +kernel
theorem dd_In_bitCount_41 : decode cc_In_bitCount 41 = .ok (.iload_n 0, 1) := by decide +kernel
theorem dd_In_bitCount_42 : decode cc_In_bitCount 42 = .ok (.iload_n 0, 1) := by decide +kernel
theorem dd_In_bitCount_43 : decode cc_In_bitCount 43 = .ok (.bipush 16, 2) := by decide +kernel
theorem dd_In_bitCount_45 : decode cc_In_bitCount 45 = .ok (.iushr, 1) := by decide +kernel
theorem dd_In_bitCount_46 : decode cc_In_bitCount 46 = .ok (.iadd, 1) := by decide +kernel
theorem dd_In_bitCount_47 : decode cc_In_bitCount 47 = .ok (.istore_n 0, 1) := by decide +kernel
theorem dd_In_bitCount_48 : decode cc_In_bitCount 48 = .ok (.iload_n 0, 1) := by decide +kernel
theorem dd_In_bitCount_49 : decode cc_In_bitCount 49 = .ok (.bipush 63, 2) := by decide +kernel
theorem dd_In_bitCount_51 : decode cc_In_bitCount 51 = .ok (.iand, 1) := by decide +kernel
theorem dd_In_bitCount_52 : decode cc_In_bitCount 52 = .ok (.ireturn, 1) := by decide +kernel
theorem dd_No_noteEcho_0 : decode cc_No_noteEcho 0 = .ok (.aload_n 0, 1) := by decide +kernel
theorem dd_No_noteEcho_1 : decode cc_No_noteEcho 1 = .ok (.getfield 9, 3) := by decide +kernel
theorem dd_No_noteEcho_4 : decode cc_No_noteEcho 4 = .ok (.iload_n 1, 1) := by decide +kernel
theorem dd_No_noteEcho_5 : decode cc_No_noteEcho 5 = .ok (.dup2, 1) := by decide +kernel
theorem dd_No_noteEcho_6 : decode cc_No_noteEcho 6 = .ok (.iaload, 1) := by decide +kernel
theorem dd_No_noteEcho_7 : decode cc_No_noteEcho 7 = .ok (.iconst 1, 1) := by decide +kernel
theorem dd_No_noteEcho_8 : decode cc_No_noteEcho 8 = .ok (.iload_n 2, 1) := by decide +kernel
theorem dd_No_noteEcho_9 : decode cc_No_noteEcho 9 = .ok (.ishl, 1) := by decide +kernel
theorem dd_No_noteEcho_10 : decode cc_No_noteEcho 10 = .ok (.ior, 1) := by decide +kernel
theorem dd_No_noteEcho_11 : decode cc_No_noteEcho 11 = .ok (.iastore, 1) := by decide +kernel
theorem dd_No_noteEcho_12 : decode cc_No_noteEcho 12 = .ok (.aload_n 0, 1) := by decide +kernel
theorem dd_No_noteEcho_13 : decode cc_No_noteEcho 13 = .ok (.getfield 9, 3) := by decide +kernel
theorem dd_No_noteEcho_16 : decode cc_No_noteEcho 16 = .ok (.iload_n 1, 1) := by decide +kernel
theorem dd_No_noteEcho_17 : decode cc_No_noteEcho 17 = .ok (.iaload, 1) := by decide +kernel
theorem dd_No_noteEcho_18 : decode cc_No_noteEcho 18 = .ok (.invokestatic 21, 3) := by decide +kernel
theorem dd_No_noteEcho_21 : decode cc_No_noteEcho 21 = .ok (.ireturn, 1) := by decide +kernel
theorem dd_No_noteReady_0 : decode cc_No_noteReady 0 = .ok (.aload_n 0, 1) := by decide +kernel
theorem dd_No_noteReady_1 : decode cc_No_noteReady 1 = .ok (.getfield 15, 3) := by decide +kernel
theorem dd_No_noteReady_4 : decode cc_No_noteReady 4 = .ok (.iload_n 1, 1) := by decide +kernel
theorem dd_No_noteReady_5 : decode cc_No_noteReady 5 = .ok (.iaload, 1) := by decide +kernel
theorem dd_No_noteReady_6 : decode cc_No_noteReady 6 = .ok (.invokestatic 21, 3) := by decide +kernel
theorem dd_No_noteReady_9 : decode cc_No_noteReady 9 = .ok (.istore_n 3, 1) := by decide +kernel
theorem dd_No_noteReady_10 : decode cc_No_noteReady 10 = .ok (.aload_n 0, 1) := by decide +kernel
theorem dd_No_noteReady_11 : decode cc_No_noteReady 11 = .ok (.getfield 15, 3) := by decide +kernel
theorem dd_No_noteReady_14 : decode cc_No_noteReady 14 = .ok (.iload_n 1, 1) := by decide +kernel
theorem dd_No_noteReady_15 : decode cc_No_noteReady 15 = .ok (.dup2, 1) := by decide +kernel
theorem dd_No_noteReady_16 : decode cc_No_noteReady 16 = .ok (.iaload, 1) := by decide +kernel
theorem dd_No_noteReady_17 : decode cc_No_noteReady 17 = .ok (.iconst 1, 1) := by decide +kernel
theorem dd_No_noteReady_18 : decode cc_No_noteReady 18 = .ok (.iload_n 2, 1) := by decide +kernel
theorem dd_No_noteReady_19 : decode cc_No_noteReady 19 = .ok (.ishl, 1) := by decide +kernel
theorem dd_No_noteReady_20 : decode cc_No_noteReady 20 = .ok (.ior, 1) := by decide +kernel
theorem dd_No_noteReady_21 : decode cc_No_noteReady 21 = .ok (.iastore, 1) := by decide +kernel
theorem dd_No_noteReady_22 : decode cc_No_noteReady 22 = .ok (.aload_n 0, 1) := by decide +kernel
theorem dd_No_noteReady_23 : decode cc_No_noteReady 23 = .ok (.getfield 15, 3) := by decide +kernel
theorem dd_No_noteReady_26 : decode cc_No_noteReady 26 = .ok (.iload_n 1, 1) := by decide +kernel
theorem dd_No_noteReady_27 : decode cc_No_noteReady 27 = .ok (.iaload, 1) := by decide +kernel
theorem dd_No_noteReady_28 : decode cc_No_noteReady 28 = .ok (.invokestatic 21, 3) := by decide +kernel
theorem dd_No_noteReady_31 : decode cc_No_noteReady 31 = .ok (.istore 4, 2) := by decide +kernel
theorem dd_No_noteReady_33 : decode cc_No_noteReady 33 = .ok (.iload_n 3, 1) := by decide +kernel
theorem dd_No_noteReady_34 : decode cc_No_noteReady 34 = .ok (.iconst 3, 1) := by decide +kernel
theorem dd_No_noteReady_35 : decode cc_No_noteReady 35 = .ok (.if_icmp .ge 29, 3) := by decide +kernel
theorem dd_No_noteReady_38 : decode cc_No_noteReady 38 = .ok (.iload 4, 2) := by decide +kernel
theorem dd_No_noteReady_40 : decode cc_No_noteReady 40 = .ok (.iconst 3, 1) := by decide +kernel
theorem dd_No_noteReady_41 : decode cc_No_noteReady 41 = .ok (.if_icmp .lt 23, 3) := by decide +kernel
theorem dd_No_noteReady_44 : decode cc_No_noteReady 44 = .ok (.aload_n 0, 1) := by decide +kernel
theorem dd_No_noteReady_45 : decode cc_No_noteReady 45 = .ok (.getfield 18, 3) := by decide +kernel
theorem dd_No_noteReady_48 : decode cc_No_noteReady 48 = .ok (.aload_n 0, 1) := by decide +kernel
theorem dd_No_noteReady_49 : decode cc_No_noteReady 49 = .ok (.getfield 27, 3) := by decide +kernel
theorem dd_No_noteReady_52 : decode cc_No_noteReady 52 = .ok (.iload_n 1, 1) := by decide +kernel
theorem dd_No_noteReady_53 : decode cc_No_noteReady 53 = .ok (.iastore, 1) := by decide +kernel
theorem dd_No_noteReady_54 : decode cc_No_noteReady 54 = .ok (.aload_n 0, 1) := by decide +kernel
theorem dd_No_noteReady_55 : decode cc_No_noteReady 55 = .ok (.dup, 1) := by decide +kernel
theorem dd_No_noteReady_56 : decode cc_No_noteReady 56 = .ok (.getfield 27, 3) := by decide +kernel
theorem dd_No_noteReady_59 : decode cc_No_noteReady 59 = .ok (.iconst 1, 1) := by decide +kernel
theorem dd_No_noteReady_60 : decode cc_No_noteReady 60 = .ok (.iadd, 1) := by decide +kernel
theorem dd_No_noteReady_61 : decode cc_No_noteReady 61 = .ok (.putfield 27, 3) := by decide +kernel
theorem dd_No_noteReady_64 : decode cc_No_noteReady 64 = .ok (.iload 4, 2) := by decide +kernel
theorem dd_No_noteReady_66 : decode cc_No_noteReady 66 = .ok (.ireturn, 1) := by decide +kernel
theorem dd_Dg_canTake_0 : decode cc_Dg_canTake 0 = .ok (.aload_n 0, 1) := by decide +kernel
theorem dd_Dg_canTake_1 : decode cc_Dg_canTake 1 = .ok (.getfield 18, 3) := by decide +kernel
theorem dd_Dg_canTake_4 : decode cc_Dg_canTake 4 = .ok (.getfield 28, 3) := by decide +kernel
theorem dd_Dg_canTake_7 : decode cc_Dg_canTake 7 = .ok (.iload_n 1, 1) := by decide +kernel
theorem dd_Dg_canTake_8 : decode cc_Dg_canTake 8 = .ok (.iaload, 1) := by decide +kernel
theorem dd_Dg_canTake_9 : decode cc_Dg_canTake 9 = .ok (.istore_n 2, 1) := by decide +kernel
theorem dd_Dg_canTake_10 : decode cc_Dg_canTake 10 = .ok (.aload_n 0, 1) := by decide +kernel
theorem dd_Dg_canTake_11 : decode cc_Dg_canTake 11 = .ok (.getfield 18, 3) := by decide +kernel
theorem dd_Dg_canTake_14 : decode cc_Dg_canTake 14 = .ok (.iload_n 1, 1) := by decide +kernel
theorem dd_Dg_canTake_15 : decode cc_Dg_canTake 15 = .ok (.invokevirtual 33, 3) := by decide +kernel
theorem dd_Dg_canTake_18 : decode cc_Dg_canTake 18 = .ok (.ifCond .eq 47, 3) := by decide +kernel
theorem dd_Dg_canTake_21 : decode cc_Dg_canTake 21 = .ok (.aload_n 0, 1) := by decide +kernel
theorem dd_Dg_canTake_22 : decode cc_Dg_canTake 22 = .ok (.aload_n 0, 1) := by decide +kernel
theorem dd_Dg_canTake_23 : decode cc_Dg_canTake 23 = .ok (.getfield 18, 3) := by decide +kernel
theorem dd_Dg_canTake_26 : decode cc_Dg_canTake 26 = .ok (.getfield 37, 3) := by decide +kernel
theorem dd_Dg_canTake_29 : decode cc_Dg_canTake 29 = .ok (.iload_n 1, 1) := by decide +kernel
theorem dd_Dg_canTake_30 : decode cc_Dg_canTake 30 = .ok (.iaload, 1) := by decide +kernel
theorem dd_Dg_canTake_31 : decode cc_Dg_canTake 31 = .ok (.iload_n 2, 1) := by decide +kernel
theorem dd_Dg_canTake_32 : decode cc_Dg_canTake 32 = .ok (.invokevirtual 40, 3) := by decide +kernel
theorem dd_Dg_canTake_35 : decode cc_Dg_canTake 35 = .ok (.ifCond .ne 30, 3) := by decide +kernel
theorem dd_Dg_canTake_38 : decode cc_Dg_canTake 38 = .ok (.aload_n 0, 1) := by decide +kernel
theorem dd_Dg_canTake_39 : decode cc_Dg_canTake 39 = .ok (.getfield 18, 3) := by decide +kernel
theorem dd_Dg_canTake_42 : decode cc_Dg_canTake 42 = .ok (.getfield 44, 3) := by decide +kernel
theorem dd_Dg_canTake_45 : decode cc_Dg_canTake 45 = .ok (.iload_n 1, 1) := by decide +kernel
theorem dd_Dg_canTake_46 : decode cc_Dg_canTake 46 = .ok (.iaload, 1) := by decide +kernel
theorem dd_Dg_canTake_47 : decode cc_Dg_canTake 47 = .ok (.aload_n 0, 1) := by decide +kernel
theorem dd_Dg_canTake_48 : decode cc_Dg_canTake 48 = .ok (.getfield 15, 3) := by decide +kernel
theorem dd_Dg_canTake_51 : decode cc_Dg_canTake 51 = .ok (.iload_n 2, 1) := by decide +kernel
theorem dd_Dg_canTake_52 : decode cc_Dg_canTake 52 = .ok (.iconst 1, 1) := by decide +kernel
theorem dd_Dg_canTake_53 : decode cc_Dg_canTake 53 = .ok (.isub, 1) := by decide +kernel
theorem dd_Dg_canTake_54 : decode cc_Dg_canTake 54 = .ok (.iaload, 1) := by decide +kernel
theorem dd_Dg_canTake_55 : decode cc_Dg_canTake 55 = .ok (.iconst (-1), 1) := by decide +kernel
theorem dd_Dg_canTake_56 : decode cc_Dg_canTake 56 = .ok (.ixor, 1) := by decide +kernel
theorem dd_Dg_canTake_57 : decode cc_Dg_canTake 57 = .ok (.iand, 1) := by decide +kernel
theorem dd_Dg_canTake_58 : decode cc_Dg_canTake 58 = .ok (.ifCond .ne 7, 3) := by decide +kernel
theorem dd_Dg_canTake_61 : decode cc_Dg_canTake 61 = .ok (.iconst 1, 1) := by decide +kernel
theorem dd_Dg_canTake_62 : decode cc_Dg_canTake 62 = .ok (.goto 4, 3) := by decide +kernel
theorem dd_Dg_canTake_65 : decode cc_Dg_canTake 65 = .ok (.iconst 0, 1) := by decide +kernel
theorem dd_Dg_canTake_66 : decode cc_Dg_canTake 66 = .ok (.ireturn, 1) := by decide +kernel
theorem dd_Dg_holds_0 : decode cc_Dg_holds 0 = .ok (.aload_n 0, 1) := by decide +kernel
theorem dd_Dg_holds_1 : decode cc_Dg_holds 1 = .ok (.getfield 9, 3) := by decide +kernel
theorem dd_Dg_holds_4 : decode cc_Dg_holds 4 = .ok (.iload_n 2, 1) := by decide +kernel
theorem dd_Dg_holds_5 : decode cc_Dg_holds 5 = .ok (.iconst 4, 1) := by decide +kernel
theorem dd_Dg_holds_6 : decode cc_Dg_holds 6 = .ok (.imul, 1) := by decide +kernel
theorem dd_Dg_holds_7 : decode cc_Dg_holds 7 = .ok (.iload_n 1, 1) := by decide +kernel
theorem dd_Dg_holds_8 : decode cc_Dg_holds 8 = .ok (.iadd, 1) := by decide +kernel
theorem dd_Dg_holds_9 : decode cc_Dg_holds 9 = .ok (.iaload, 1) := by decide +kernel
theorem dd_Dg_holds_10 : decode cc_Dg_holds 10 = .ok (.iconst (-1), 1) := by decide +kernel
theorem dd_Dg_holds_11 : decode cc_Dg_holds 11 = .ok (.if_icmp .eq 7, 3) := by decide +kernel
theorem dd_Dg_holds_14 : decode cc_Dg_holds 14 = .ok (.iconst 1, 1) := by decide +kernel
theorem dd_Dg_holds_15 : decode cc_Dg_holds 15 = .ok (.goto 4, 3) := by decide +kernel
theorem dd_Dg_holds_18 : decode cc_Dg_holds 18 = .ok (.iconst 0, 1) := by decide +kernel
theorem dd_Dg_holds_19 : decode cc_Dg_holds 19 = .ok (.ireturn, 1) := by decide +kernel
theorem dd_Ve_comesBefore_0 : decode cc_Ve_comesBefore 0 = .ok (.aload_n 0, 1) := by decide +kernel
theorem dd_Ve_comesBefore_1 : decode cc_Ve_comesBefore 1 = .ok (.getfield 15, 3) := by decide +kernel
theorem dd_Ve_comesBefore_4 : decode cc_Ve_comesBefore 4 = .ok (.iload_n 1, 1) := by decide +kernel
theorem dd_Ve_comesBefore_5 : decode cc_Ve_comesBefore 5 = .ok (.iaload, 1) := by decide +kernel
theorem dd_Ve_comesBefore_6 : decode cc_Ve_comesBefore 6 = .ok (.aload_n 0, 1) := by decide +kernel
theorem dd_Ve_comesBefore_7 : decode cc_Ve_comesBefore 7 = .ok (.getfield 15, 3) := by decide +kernel
theorem dd_Ve_comesBefore_10 : decode cc_Ve_comesBefore 10 = .ok (.iload_n 2, 1) := by decide +kernel
theorem dd_Ve_comesBefore_11 : decode cc_Ve_comesBefore 11 = .ok (.iaload, 1) := by decide +kernel
theorem dd_Ve_comesBefore_12 : decode cc_Ve_comesBefore 12 = .ok (.if_icmp .eq 24, 3) := by decide +kernel
theorem dd_Ve_comesBefore_15 : decode cc_Ve_comesBefore 15 = .ok (.aload_n 0, 1) := by decide +kernel
theorem dd_Ve_comesBefore_16 : decode cc_Ve_comesBefore 16 = .ok (.getfield 15, 3) := by decide +kernel
theorem dd_Ve_comesBefore_19 : decode cc_Ve_comesBefore 19 = .ok (.iload_n 1, 1) := by decide +kernel
theorem dd_Ve_comesBefore_20 : decode cc_Ve_comesBefore 20 = .ok (.iaload, 1) := by decide +kernel
theorem dd_Ve_comesBefore_21 : decode cc_Ve_comesBefore 21 = .ok (.aload_n 0, 1) := by decide +kernel
theorem dd_Ve_comesBefore_22 : decode cc_Ve_comesBefore 22 = .ok (.getfield 15, 3) := by decide +kernel
theorem dd_Ve_comesBefore_25 : decode cc_Ve_comesBefore 25 = .ok (.iload_n 2, 1) := by decide +kernel
theorem dd_Ve_comesBefore_26 : decode cc_Ve_comesBefore 26 = .ok (.iaload, 1) := by decide +kernel
theorem dd_Ve_comesBefore_27 : decode cc_Ve_comesBefore 27 = .ok (.if_icmp .ge 7, 3) := by decide +kernel
theorem dd_Ve_comesBefore_30 : decode cc_Ve_comesBefore 30 = .ok (.iconst 1, 1) := by decide +kernel
theorem dd_Ve_comesBefore_31 : decode cc_Ve_comesBefore 31 = .ok (.goto 4, 3) := by decide +kernel
theorem dd_Ve_comesBefore_34 : decode cc_Ve_comesBefore 34 = .ok (.iconst 0, 1) := by decide +kernel
theorem dd_Ve_comesBefore_35 : decode cc_Ve_comesBefore 35 = .ok (.ireturn, 1) := by decide +kernel
theorem dd_Ve_comesBefore_36 : decode cc_Ve_comesBefore 36 = .ok (.aload_n 0, 1) := by decide +kernel
theorem dd_Ve_comesBefore_37 : decode cc_Ve_comesBefore 37 = .ok (.getfield 9, 3) := by decide +kernel
theorem dd_Ve_comesBefore_40 : decode cc_Ve_comesBefore 40 = .ok (.iload_n 1, 1) := by decide +kernel
theorem dd_Ve_comesBefore_41 : decode cc_Ve_comesBefore 41 = .ok (.iaload, 1) := by decide +kernel
theorem dd_Ve_comesBefore_42 : decode cc_Ve_comesBefore 42 = .ok (.aload_n 0, 1) := by decide +kernel
theorem dd_Ve_comesBefore_43 : decode cc_Ve_comesBefore 43 = .ok (.getfield 9, 3) := by decide +kernel
theorem dd_Ve_comesBefore_46 : decode cc_Ve_comesBefore 46 = .ok (.iload_n 2, 1) := by decide +kernel
theorem dd_Ve_comesBefore_47 : decode cc_Ve_comesBefore 47 = .ok (.iaload, 1) := by decide +kernel
theorem dd_Ve_comesBefore_48 : decode cc_Ve_comesBefore 48 = .ok (.if_icmp .ge 7, 3) := by decide +kernel
theorem dd_Ve_comesBefore_51 : decode cc_Ve_comesBefore 51 = .ok (.iconst 1, 1) := by decide +kernel
theorem dd_Ve_comesBefore_52 : decode cc_Ve_comesBefore 52 = .ok (.goto 4, 3) := by decide +kernel
theorem dd_Ve_comesBefore_55 : decode cc_Ve_comesBefore 55 = .ok (.iconst 0, 1) := by decide +kernel
theorem dd_Ve_comesBefore_56 : decode cc_Ve_comesBefore 56 = .ok (.ireturn, 1) := by decide +kernel
theorem dd_Dg_insert_0 : decode cc_Dg_insert 0 = .ok (.aload_n 0, 1) := by decide +kernel
theorem dd_Dg_insert_1 : decode cc_Dg_insert 1 = .ok (.getfield 18, 3) := by decide +kernel
theorem dd_Dg_insert_4 : decode cc_Dg_insert 4 = .ok (.getfield 37, 3) := by decide +kernel
theorem dd_Dg_insert_7 : decode cc_Dg_insert 7 = .ok (.iload_n 1, 1) := by decide +kernel
theorem dd_Dg_insert_8 : decode cc_Dg_insert 8 = .ok (.iaload, 1) := by decide +kernel
theorem dd_Dg_insert_9 : decode cc_Dg_insert 9 = .ok (.istore_n 2, 1) := by decide +kernel
theorem dd_Dg_insert_10 : decode cc_Dg_insert 10 = .ok (.aload_n 0, 1) := by decide +kernel
theorem dd_Dg_insert_11 : decode cc_Dg_insert 11 = .ok (.getfield 18, 3) := by decide +kernel
theorem dd_Dg_insert_14 : decode cc_Dg_insert 14 = .ok (.getfield 28, 3) := by decide +kernel
theorem dd_Dg_insert_17 : decode cc_Dg_insert 17 = .ok (.iload_n 1, 1) := by decide +kernel
theorem dd_Dg_insert_18 : decode cc_Dg_insert 18 = .ok (.iaload, 1) := by decide +kernel
theorem dd_Dg_insert_19 : decode cc_Dg_insert 19 = .ok (.istore_n 3, 1) := by decide +kernel
theorem dd_Dg_insert_20 : decode cc_Dg_insert 20 = .ok (.aload_n 0, 1) := by decide +kernel
theorem dd_Dg_insert_21 : decode cc_Dg_insert 21 = .ok (.getfield 9, 3) := by decide +kernel
theorem dd_Dg_insert_24 : decode cc_Dg_insert 24 = .ok (.iload_n 3, 1) := by decide +kernel
theorem dd_Dg_insert_25 : decode cc_Dg_insert 25 = .ok (.iconst 4, 1) := by decide +kernel
theorem dd_Dg_insert_26 : decode cc_Dg_insert 26 = .ok (.imul, 1) := by decide +kernel
theorem dd_Dg_insert_27 : decode cc_Dg_insert 27 = .ok (.iload_n 2, 1) := by decide +kernel
theorem dd_Dg_insert_28 : decode cc_Dg_insert 28 = .ok (.iadd, 1) := by decide +kernel
theorem dd_Dg_insert_29 : decode cc_Dg_insert 29 = .ok (.iload_n 1, 1) := by decide +kernel
theorem dd_Dg_insert_30 : decode cc_Dg_insert 30 = .ok (.iastore, 1) := by decide +kernel
theorem dd_Dg_insert_31 : decode cc_Dg_insert 31 = .ok (.aload_n 0, 1) := by decide +kernel
theorem dd_Dg_insert_32 : decode cc_Dg_insert 32 = .ok (.getfield 15, 3) := by decide +kernel
theorem dd_Dg_insert_35 : decode cc_Dg_insert 35 = .ok (.iload_n 3, 1) := by decide +kernel
theorem dd_Dg_insert_36 : decode cc_Dg_insert 36 = .ok (.dup2, 1) := by decide +kernel
theorem dd_Dg_insert_37 : decode cc_Dg_insert 37 = .ok (.iaload, 1) := by decide +kernel
theorem dd_Dg_insert_38 : decode cc_Dg_insert 38 = .ok (.iconst 1, 1) := by decide +kernel
theorem dd_Dg_insert_39 : decode cc_Dg_insert 39 = .ok (.iload_n 2, 1) := by decide +kernel
theorem dd_Dg_insert_40 : decode cc_Dg_insert 40 = .ok (.ishl, 1) := by decide +kernel
theorem dd_Dg_insert_41 : decode cc_Dg_insert 41 = .ok (.ior, 1) := by decide +kernel
theorem dd_Dg_insert_42 : decode cc_Dg_insert 42 = .ok (.iastore, 1) := by decide +kernel
theorem dd_Dg_insert_43 : decode cc_Dg_insert 43 = .ok (.aload_n 0, 1) := by decide +kernel
theorem dd_Dg_insert_44 : decode cc_Dg_insert 44 = .ok (.dup, 1) := by decide +kernel
theorem dd_Dg_insert_45 : decode cc_Dg_insert 45 = .ok (.getfield 47, 3) := by decide +kernel
theorem dd_Dg_insert_48 : decode cc_Dg_insert 48 = .ok (.iconst 1, 1) := by decide +kernel
theorem dd_Dg_insert_49 : decode cc_Dg_insert 49 = .ok (.iadd, 1) := by decide +kernel
theorem dd_Dg_insert_50 : decode cc_Dg_insert 50 = .ok (.putfield 47, 3) := by decide +kernel
theorem dd_Dg_insert_53 : decode cc_Dg_insert 53 = .ok (.return_, 1) := by decide +kernel
theorem dd_No_stopWaiting_0 : decode cc_No_stopWaiting 0 = .ok (.aload_n 0, 1) := by decide +kernel
theorem dd_No_stopWaiting_1 : decode cc_No_stopWaiting 1 = .ok (.dup, 1) := by decide +kernel
theorem dd_No_stopWaiting_2 : decode cc_No_stopWaiting 2 = .ok (.getfield 27, 3) := by decide +kernel
theorem dd_No_stopWaiting_5 : decode cc_No_stopWaiting 5 = .ok (.iconst 1, 1) := by decide +kernel
theorem dd_No_stopWaiting_6 : decode cc_No_stopWaiting 6 = .ok (.isub, 1) := by decide +kernel
theorem dd_No_stopWaiting_7 : decode cc_No_stopWaiting 7 = .ok (.putfield 27, 3) := by decide +kernel
theorem dd_No_stopWaiting_10 : decode cc_No_stopWaiting 10 = .ok (.aload_n 0, 1) := by decide +kernel
theorem dd_No_stopWaiting_11 : decode cc_No_stopWaiting 11 = .ok (.getfield 18, 3) := by decide +kernel
theorem dd_No_stopWaiting_14 : decode cc_No_stopWaiting 14 = .ok (.iload_n 1, 1) := by decide +kernel
theorem dd_No_stopWaiting_15 : decode cc_No_stopWaiting 15 = .ok (.aload_n 0, 1) := by decide +kernel
theorem dd_No_stopWaiting_16 : decode cc_No_stopWaiting 16 = .ok (.getfield 18, 3) := by decide +kernel
theorem dd_No_stopWaiting_19 : decode cc_No_stopWaiting 19 = .ok (.aload_n 0, 1) := by decide +kernel
theorem dd_No_stopWaiting_20 : decode cc_No_stopWaiting 20 = .ok (.getfield 27, 3) := by decide +kernel
theorem dd_No_stopWaiting_23 : decode cc_No_stopWaiting 23 = .ok (.iaload, 1) := by decide +kernel
theorem dd_No_stopWaiting_24 : decode cc_No_stopWaiting 24 = .ok (.iastore, 1) := by decide +kernel
theorem dd_No_stopWaiting_25 : decode cc_No_stopWaiting 25 = .ok (.return_, 1) := by decide +kernel
theorem dd_Co_commitNext_0 : decode cc_Co_commitNext 0 = .ok (.aload_n 0, 1) := by decide +kernel
theorem dd_Co_commitNext_1 : decode cc_Co_commitNext 1 = .ok (.invokevirtual 30, 3) := by decide +kernel
theorem dd_Co_commitNext_4 : decode cc_Co_commitNext 4 = .ok (.istore_n 1, 1) := by decide +kernel
theorem dd_Co_commitNext_5 : decode cc_Co_commitNext 5 = .ok (.iload_n 1, 1) := by decide +kernel
theorem dd_Co_commitNext_6 : decode cc_Co_commitNext 6 = .ok (.iconst (-1), 1) := by decide +kernel
theorem dd_Co_commitNext_7 : decode cc_Co_commitNext 7 = .ok (.if_icmp .ne 5, 3) := by decide +kernel
theorem dd_Co_commitNext_10 : decode cc_Co_commitNext 10 = .ok (.iconst 0, 1) := by decide +kernel
theorem dd_Co_commitNext_11 : decode cc_Co_commitNext 11 = .ok (.ireturn, 1) := by decide +kernel
theorem dd_Co_commitNext_12 : decode cc_Co_commitNext 12 = .ok (.aload_n 0, 1) := by decide +kernel
theorem dd_Co_commitNext_13 : decode cc_Co_commitNext 13 = .ok (.iload_n 1, 1) := by decide +kernel
theorem dd_Co_commitNext_14 : decode cc_Co_commitNext 14 = .ok (.invokevirtual 34, 3) := by decide +kernel
theorem dd_Co_commitNext_17 : decode cc_Co_commitNext 17 = .ok (.istore_n 2, 1) := by decide +kernel
theorem dd_Co_commitNext_18 : decode cc_Co_commitNext 18 = .ok (.aload_n 0, 1) := by decide +kernel
theorem dd_Co_commitNext_19 : decode cc_Co_commitNext 19 = .ok (.getfield 38, 3) := by decide +kernel
theorem dd_Co_commitNext_22 : decode cc_Co_commitNext 22 = .ok (.iconst 2, 1) := by decide +kernel
theorem dd_Co_commitNext_23 : decode cc_Co_commitNext 23 = .ok (.iadd, 1) := by decide +kernel
theorem dd_Co_commitNext_24 : decode cc_Co_commitNext 24 = .ok (.istore_n 3, 1) := by decide +kernel
theorem dd_Co_commitNext_25 : decode cc_Co_commitNext 25 = .ok (.iload_n 3, 1) := by decide +kernel
theorem dd_Co_commitNext_26 : decode cc_Co_commitNext 26 = .ok (.iload_n 1, 1) := by decide +kernel
theorem dd_Co_commitNext_27 : decode cc_Co_commitNext 27 = .ok (.if_icmp .gt 26, 3) := by decide +kernel
theorem dd_Co_commitNext_30 : decode cc_Co_commitNext 30 = .ok (.iload_n 2, 1) := by decide +kernel
theorem dd_Co_commitNext_31 : decode cc_Co_commitNext 31 = .ok (.iload_n 3, 1) := by decide +kernel
theorem dd_Co_commitNext_32 : decode cc_Co_commitNext 32 = .ok (.invokestatic 42, 3) := by decide +kernel
theorem dd_Co_commitNext_35 : decode cc_Co_commitNext 35 = .ok (.ifCond .eq 12, 3) := by decide +kernel
theorem dd_Co_commitNext_38 : decode cc_Co_commitNext 38 = .ok (.aload_n 0, 1) := by decide +kernel
theorem dd_Co_commitNext_39 : decode cc_Co_commitNext 39 = .ok (.iload_n 3, 1) := by decide +kernel
theorem dd_Co_commitNext_40 : decode cc_Co_commitNext 40 = .ok (.invokestatic 46, 3) := by decide +kernel
theorem dd_Co_commitNext_43 : decode cc_Co_commitNext 43 = .ok (.iload_n 3, 1) := by decide +kernel
theorem dd_Co_commitNext_44 : decode cc_Co_commitNext 44 = .ok (.invokevirtual 49, 3) := by decide +kernel
theorem dd_Co_commitNext_47 : decode cc_Co_commitNext 47 = .ok (.iinc 3 2, 3) := by decide +kernel
theorem dd_Co_commitNext_50 : decode cc_Co_commitNext 50 = .ok (.goto (-25), 3) := by decide +kernel
theorem dd_Co_commitNext_53 : decode cc_Co_commitNext 53 = .ok (.aload_n 0, 1) := by decide +kernel
theorem dd_Co_commitNext_54 : decode cc_Co_commitNext 54 = .ok (.iload_n 1, 1) := by decide +kernel
theorem dd_Co_commitNext_55 : decode cc_Co_commitNext 55 = .ok (.putfield 38, 3) := by decide +kernel
theorem dd_Co_commitNext_58 : decode cc_Co_commitNext 58 = .ok (.iconst 1, 1) := by decide +kernel
theorem dd_Co_commitNext_59 : decode cc_Co_commitNext 59 = .ok (.ireturn, 1) := by decide +kernel
theorem dd_Co_nextRound_0 : decode cc_Co_nextRound 0 = .ok (.aload_n 0, 1) := by decide +kernel
theorem dd_Co_nextRound_1 : decode cc_Co_nextRound 1 = .ok (.getfield 38, 3) := by decide +kernel
theorem dd_Co_nextRound_4 : decode cc_Co_nextRound 4 = .ok (.iconst 2, 1) := by decide +kernel
theorem dd_Co_nextRound_5 : decode cc_Co_nextRound 5 = .ok (.iadd, 1) := by decide +kernel
theorem dd_Co_nextRound_6 : decode cc_Co_nextRound 6 = .ok (.istore_n 1, 1) := by decide +kernel
theorem dd_Co_nextRound_7 : decode cc_Co_nextRound 7 = .ok (.iload_n 1, 1) := by decide +kernel
theorem dd_Co_nextRound_8 : decode cc_Co_nextRound 8 = .ok (.bipush 14, 2) := by decide +kernel
theorem dd_Co_nextRound_10 : decode cc_Co_nextRound 10 = .ok (.if_icmp .gt 41, 3) := by decide +kernel
theorem dd_Co_nextRound_13 : decode cc_Co_nextRound 13 = .ok (.iload_n 1, 1) := by decide +kernel
theorem dd_Co_nextRound_14 : decode cc_Co_nextRound 14 = .ok (.invokestatic 46, 3) := by decide +kernel
theorem dd_Co_nextRound_17 : decode cc_Co_nextRound 17 = .ok (.istore_n 2, 1) := by decide +kernel
theorem dd_Co_nextRound_18 : decode cc_Co_nextRound 18 = .ok (.aload_n 0, 1) := by decide +kernel
theorem dd_Co_nextRound_19 : decode cc_Co_nextRound 19 = .ok (.getfield 22, 3) := by decide +kernel
theorem dd_Co_nextRound_22 : decode cc_Co_nextRound 22 = .ok (.iload_n 2, 1) := by decide +kernel
theorem dd_Co_nextRound_23 : decode cc_Co_nextRound 23 = .ok (.iload_n 1, 1) := by decide +kernel
theorem dd_Co_nextRound_24 : decode cc_Co_nextRound 24 = .ok (.invokevirtual 53, 3) := by decide +kernel
theorem dd_Co_nextRound_27 : decode cc_Co_nextRound 27 = .ok (.ifCond .eq 18, 3) := by decide +kernel
theorem dd_Co_nextRound_30 : decode cc_Co_nextRound 30 = .ok (.aload_n 0, 1) := by decide +kernel
theorem dd_Co_nextRound_31 : decode cc_Co_nextRound 31 = .ok (.getfield 22, 3) := by decide +kernel
theorem dd_Co_nextRound_34 : decode cc_Co_nextRound 34 = .ok (.iload_n 2, 1) := by decide +kernel
theorem dd_Co_nextRound_35 : decode cc_Co_nextRound 35 = .ok (.iload_n 1, 1) := by decide +kernel
theorem dd_Co_nextRound_36 : decode cc_Co_nextRound 36 = .ok (.invokevirtual 58, 3) := by decide +kernel
theorem dd_Co_nextRound_39 : decode cc_Co_nextRound 39 = .ok (.iconst 2, 1) := by decide +kernel
theorem dd_Co_nextRound_40 : decode cc_Co_nextRound 40 = .ok (.if_icmp .lt 5, 3) := by decide +kernel
theorem dd_Co_nextRound_43 : decode cc_Co_nextRound 43 = .ok (.iload_n 1, 1) := by decide +kernel
theorem dd_Co_nextRound_44 : decode cc_Co_nextRound 44 = .ok (.ireturn, 1) := by decide +kernel
theorem dd_Co_nextRound_45 : decode cc_Co_nextRound 45 = .ok (.iinc 1 2, 3) := by decide +kernel
theorem dd_Co_nextRound_48 : decode cc_Co_nextRound 48 = .ok (.goto (-41), 3) := by decide +kernel
theorem dd_Co_nextRound_51 : decode cc_Co_nextRound 51 = .ok (.iconst (-1), 1) := by decide +kernel
theorem dd_Co_nextRound_52 : decode cc_Co_nextRound 52 = .ok (.ireturn, 1) := by decide +kernel
theorem dd_Dg_countStandingOn_0 : decode cc_Dg_countStandingOn 0 = .ok (.iconst 0, 1) := by decide +kernel
theorem dd_Dg_countStandingOn_1 : decode cc_Dg_countStandingOn 1 = .ok (.istore_n 3, 1) := by decide +kernel
theorem dd_Dg_countStandingOn_2 : decode cc_Dg_countStandingOn 2 = .ok (.iconst 0, 1) := by decide +kernel
theorem dd_Dg_countStandingOn_3 : decode cc_Dg_countStandingOn 3 = .ok (.istore 4, 2) := by decide +kernel
theorem dd_Dg_countStandingOn_5 : decode cc_Dg_countStandingOn 5 = .ok (.iload 4, 2) := by decide +kernel
theorem dd_Dg_countStandingOn_7 : decode cc_Dg_countStandingOn 7 = .ok (.iconst 4, 1) := by decide +kernel
theorem dd_Dg_countStandingOn_8 : decode cc_Dg_countStandingOn 8 = .ok (.if_icmp .ge 50, 3) := by decide +kernel
theorem dd_Dg_countStandingOn_11 : decode cc_Dg_countStandingOn 11 = .ok (.aload_n 0, 1) := by decide +kernel
theorem dd_Dg_countStandingOn_12 : decode cc_Dg_countStandingOn 12 = .ok (.getfield 9, 3) := by decide +kernel
theorem dd_Dg_countStandingOn_15 : decode cc_Dg_countStandingOn 15 = .ok (.iload_n 2, 1) := by decide +kernel
theorem dd_Dg_countStandingOn_16 : decode cc_Dg_countStandingOn 16 = .ok (.iconst 1, 1) := by decide +kernel
theorem dd_Dg_countStandingOn_17 : decode cc_Dg_countStandingOn 17 = .ok (.iadd, 1) := by decide +kernel
theorem dd_Dg_countStandingOn_18 : decode cc_Dg_countStandingOn 18 = .ok (.iconst 4, 1) := by decide +kernel
theorem dd_Dg_countStandingOn_19 : decode cc_Dg_countStandingOn 19 = .ok (.imul, 1) := by decide +kernel
theorem dd_Dg_countStandingOn_20 : decode cc_Dg_countStandingOn 20 = .ok (.iload 4, 2) := by decide +kernel
theorem dd_Dg_countStandingOn_22 : decode cc_Dg_countStandingOn 22 = .ok (.iadd, 1) := by decide +kernel
theorem dd_Dg_countStandingOn_23 : decode cc_Dg_countStandingOn 23 = .ok (.iaload, 1) := by decide +kernel
theorem dd_Dg_countStandingOn_24 : decode cc_Dg_countStandingOn 24 = .ok (.istore 5, 2) := by decide +kernel
theorem dd_Dg_countStandingOn_26 : decode cc_Dg_countStandingOn 26 = .ok (.iload 5, 2) := by decide +kernel
theorem dd_Dg_countStandingOn_28 : decode cc_Dg_countStandingOn 28 = .ok (.iconst (-1), 1) := by decide +kernel
theorem dd_Dg_countStandingOn_29 : decode cc_Dg_countStandingOn 29 = .ok (.if_icmp .eq 23, 3) := by decide +kernel
theorem dd_Dg_countStandingOn_32 : decode cc_Dg_countStandingOn 32 = .ok (.aload_n 0, 1) := by decide +kernel
theorem dd_Dg_countStandingOn_33 : decode cc_Dg_countStandingOn 33 = .ok (.getfield 18, 3) := by decide +kernel
theorem dd_Dg_countStandingOn_36 : decode cc_Dg_countStandingOn 36 = .ok (.getfield 44, 3) := by decide +kernel
theorem dd_Dg_countStandingOn_39 : decode cc_Dg_countStandingOn 39 = .ok (.iload 5, 2) := by decide +kernel
theorem dd_Dg_countStandingOn_41 : decode cc_Dg_countStandingOn 41 = .ok (.iaload, 1) := by decide +kernel
theorem dd_Dg_countStandingOn_42 : decode cc_Dg_countStandingOn 42 = .ok (.iload_n 1, 1) := by decide +kernel
theorem dd_Dg_countStandingOn_43 : decode cc_Dg_countStandingOn 43 = .ok (.invokestatic 51, 3) := by decide +kernel
theorem dd_Dg_countStandingOn_46 : decode cc_Dg_countStandingOn 46 = .ok (.ifCond .eq 6, 3) := by decide +kernel
theorem dd_Dg_countStandingOn_49 : decode cc_Dg_countStandingOn 49 = .ok (.iinc 3 1, 3) := by decide +kernel
theorem dd_Dg_countStandingOn_52 : decode cc_Dg_countStandingOn 52 = .ok (.iinc 4 1, 3) := by decide +kernel
theorem dd_Dg_countStandingOn_55 : decode cc_Dg_countStandingOn 55 = .ok (.goto (-50), 3) := by decide +kernel
theorem dd_Dg_countStandingOn_58 : decode cc_Dg_countStandingOn 58 = .ok (.iload_n 3, 1) := by decide +kernel
theorem dd_Dg_countStandingOn_59 : decode cc_Dg_countStandingOn 59 = .ok (.ireturn, 1) := by decide +kernel
theorem dd_Co_leadersUnder_0 : decode cc_Co_leadersUnder 0 = .ok (.iconst 1, 1) := by decide +kernel
theorem dd_Co_leadersUnder_1 : decode cc_Co_leadersUnder 1 = .ok (.iload_n 1, 1) := by decide +kernel
theorem dd_Co_leadersUnder_2 : decode cc_Co_leadersUnder 2 = .ok (.ishl, 1) := by decide +kernel
theorem dd_Co_leadersUnder_3 : decode cc_Co_leadersUnder 3 = .ok (.istore_n 2, 1) := by decide +kernel
theorem dd_Co_leadersUnder_4 : decode cc_Co_leadersUnder 4 = .ok (.iconst 1, 1) := by decide +kernel
theorem dd_Co_leadersUnder_5 : decode cc_Co_leadersUnder 5 = .ok (.iload_n 1, 1) := by decide +kernel
theorem dd_Co_leadersUnder_6 : decode cc_Co_leadersUnder 6 = .ok (.invokestatic 46, 3) := by decide +kernel
theorem dd_Co_leadersUnder_9 : decode cc_Co_leadersUnder 9 = .ok (.ishl, 1) := by decide +kernel
theorem dd_Co_leadersUnder_10 : decode cc_Co_leadersUnder 10 = .ok (.istore_n 3, 1) := by decide +kernel
theorem dd_Co_leadersUnder_11 : decode cc_Co_leadersUnder 11 = .ok (.iload_n 1, 1) := by decide +kernel
theorem dd_Co_leadersUnder_12 : decode cc_Co_leadersUnder 12 = .ok (.iconst 1, 1) := by decide +kernel
theorem dd_Co_leadersUnder_13 : decode cc_Co_leadersUnder 13 = .ok (.isub, 1) := by decide +kernel
theorem dd_Co_leadersUnder_14 : decode cc_Co_leadersUnder 14 = .ok (.istore 4, 2) := by decide +kernel
theorem dd_Co_leadersUnder_16 : decode cc_Co_leadersUnder 16 = .ok (.iload 4, 2) := by decide +kernel
theorem dd_Co_leadersUnder_18 : decode cc_Co_leadersUnder 18 = .ok (.aload_n 0, 1) := by decide +kernel
theorem dd_Co_leadersUnder_19 : decode cc_Co_leadersUnder 19 = .ok (.getfield 38, 3) := by decide +kernel
theorem dd_Co_leadersUnder_22 : decode cc_Co_leadersUnder 22 = .ok (.if_icmp .le 56, 3) := by decide +kernel
theorem dd_Co_leadersUnder_25 : decode cc_Co_leadersUnder 25 = .ok (.aload_n 0, 1) := by decide +kernel
theorem dd_Co_leadersUnder_26 : decode cc_Co_leadersUnder 26 = .ok (.getfield 22, 3) := by decide +kernel
theorem dd_Co_leadersUnder_29 : decode cc_Co_leadersUnder 29 = .ok (.iload_n 3, 1) := by decide +kernel
theorem dd_Co_leadersUnder_30 : decode cc_Co_leadersUnder 30 = .ok (.iload 4, 2) := by decide +kernel
theorem dd_Co_leadersUnder_32 : decode cc_Co_leadersUnder 32 = .ok (.iconst 1, 1) := by decide +kernel
theorem dd_Co_leadersUnder_33 : decode cc_Co_leadersUnder 33 = .ok (.iadd, 1) := by decide +kernel
theorem dd_Co_leadersUnder_34 : decode cc_Co_leadersUnder 34 = .ok (.invokevirtual 62, 3) := by decide +kernel
theorem dd_Co_leadersUnder_37 : decode cc_Co_leadersUnder 37 = .ok (.istore_n 3, 1) := by decide +kernel
theorem dd_Co_leadersUnder_38 : decode cc_Co_leadersUnder 38 = .ok (.iload 4, 2) := by decide +kernel
theorem dd_Co_leadersUnder_40 : decode cc_Co_leadersUnder 40 = .ok (.iconst 2, 1) := by decide +kernel
theorem dd_Co_leadersUnder_41 : decode cc_Co_leadersUnder 41 = .ok (.irem, 1) := by decide +kernel
theorem dd_Co_leadersUnder_42 : decode cc_Co_leadersUnder 42 = .ok (.ifCond .ne 30, 3) := by decide +kernel
theorem dd_Co_leadersUnder_45 : decode cc_Co_leadersUnder 45 = .ok (.iload_n 3, 1) := by decide +kernel
theorem dd_Co_leadersUnder_46 : decode cc_Co_leadersUnder 46 = .ok (.iload 4, 2) := by decide +kernel
theorem dd_Co_leadersUnder_48 : decode cc_Co_leadersUnder 48 = .ok (.invokestatic 46, 3) := by decide +kernel
theorem dd_Co_leadersUnder_51 : decode cc_Co_leadersUnder 51 = .ok (.invokestatic 42, 3) := by decide +kernel
theorem dd_Co_leadersUnder_54 : decode cc_Co_leadersUnder 54 = .ok (.ifCond .eq 18, 3) := by decide +kernel
theorem dd_Co_leadersUnder_57 : decode cc_Co_leadersUnder 57 = .ok (.iload_n 2, 1) := by decide +kernel
theorem dd_Co_leadersUnder_58 : decode cc_Co_leadersUnder 58 = .ok (.iconst 1, 1) := by decide +kernel
theorem dd_Co_leadersUnder_59 : decode cc_Co_leadersUnder 59 = .ok (.iload 4, 2) := by decide +kernel
theorem dd_Co_leadersUnder_61 : decode cc_Co_leadersUnder 61 = .ok (.ishl, 1) := by decide +kernel
theorem dd_Co_leadersUnder_62 : decode cc_Co_leadersUnder 62 = .ok (.ior, 1) := by decide +kernel
theorem dd_Co_leadersUnder_63 : decode cc_Co_leadersUnder 63 = .ok (.istore_n 2, 1) := by decide +kernel
theorem dd_Co_leadersUnder_64 : decode cc_Co_leadersUnder 64 = .ok (.iconst 1, 1) := by decide +kernel
theorem dd_Co_leadersUnder_65 : decode cc_Co_leadersUnder 65 = .ok (.iload 4, 2) := by decide +kernel
theorem dd_Co_leadersUnder_67 : decode cc_Co_leadersUnder 67 = .ok (.invokestatic 46, 3) := by decide +kernel
theorem dd_Co_leadersUnder_70 : decode cc_Co_leadersUnder 70 = .ok (.ishl, 1) := by decide +kernel
theorem dd_Co_leadersUnder_71 : decode cc_Co_leadersUnder 71 = .ok (.istore_n 3, 1) := by decide +kernel
theorem dd_Co_leadersUnder_72 : decode cc_Co_leadersUnder 72 = .ok (.iinc 4 (-1), 3) := by decide +kernel
theorem dd_Co_leadersUnder_75 : decode cc_Co_leadersUnder 75 = .ok (.goto (-59), 3) := by decide +kernel
theorem dd_Co_leadersUnder_78 : decode cc_Co_leadersUnder 78 = .ok (.iload_n 2, 1) := by decide +kernel
theorem dd_Co_leadersUnder_79 : decode cc_Co_leadersUnder 79 = .ok (.ireturn, 1) := by decide +kernel
theorem dd_Dg_parentsOf_0 : decode cc_Dg_parentsOf 0 = .ok (.iconst 0, 1) := by decide +kernel
theorem dd_Dg_parentsOf_1 : decode cc_Dg_parentsOf 1 = .ok (.istore_n 3, 1) := by decide +kernel
theorem dd_Dg_parentsOf_2 : decode cc_Dg_parentsOf 2 = .ok (.iconst 0, 1) := by decide +kernel
theorem dd_Dg_parentsOf_3 : decode cc_Dg_parentsOf 3 = .ok (.istore 4, 2) := by decide +kernel
theorem dd_Dg_parentsOf_5 : decode cc_Dg_parentsOf 5 = .ok (.iload 4, 2) := by decide +kernel
theorem dd_Dg_parentsOf_7 : decode cc_Dg_parentsOf 7 = .ok (.iconst 4, 1) := by decide +kernel
theorem dd_Dg_parentsOf_8 : decode cc_Dg_parentsOf 8 = .ok (.if_icmp .ge 50, 3) := by decide +kernel
theorem dd_Dg_parentsOf_11 : decode cc_Dg_parentsOf 11 = .ok (.aload_n 0, 1) := by decide +kernel
theorem dd_Dg_parentsOf_12 : decode cc_Dg_parentsOf 12 = .ok (.getfield 9, 3) := by decide +kernel
theorem dd_Dg_parentsOf_15 : decode cc_Dg_parentsOf 15 = .ok (.iload_n 2, 1) := by decide +kernel
theorem dd_Dg_parentsOf_16 : decode cc_Dg_parentsOf 16 = .ok (.iconst 4, 1) := by decide +kernel
theorem dd_Dg_parentsOf_17 : decode cc_Dg_parentsOf 17 = .ok (.imul, 1) := by decide +kernel
theorem dd_Dg_parentsOf_18 : decode cc_Dg_parentsOf 18 = .ok (.iload 4, 2) := by decide +kernel
theorem dd_Dg_parentsOf_20 : decode cc_Dg_parentsOf 20 = .ok (.iadd, 1) := by decide +kernel
theorem dd_Dg_parentsOf_21 : decode cc_Dg_parentsOf 21 = .ok (.iaload, 1) := by decide +kernel
theorem dd_Dg_parentsOf_22 : decode cc_Dg_parentsOf 22 = .ok (.istore 5, 2) := by decide +kernel
theorem dd_Dg_parentsOf_24 : decode cc_Dg_parentsOf 24 = .ok (.iload 5, 2) := by decide +kernel
theorem dd_Dg_parentsOf_26 : decode cc_Dg_parentsOf 26 = .ok (.iconst (-1), 1) := by decide +kernel
theorem dd_Dg_parentsOf_27 : decode cc_Dg_parentsOf 27 = .ok (.if_icmp .eq 25, 3) := by decide +kernel
theorem dd_Dg_parentsOf_30 : decode cc_Dg_parentsOf 30 = .ok (.iload_n 1, 1) := by decide +kernel
theorem dd_Dg_parentsOf_31 : decode cc_Dg_parentsOf 31 = .ok (.iload 4, 2) := by decide +kernel
theorem dd_Dg_parentsOf_33 : decode cc_Dg_parentsOf 33 = .ok (.invokestatic 51, 3) := by decide +kernel
theorem dd_Dg_parentsOf_36 : decode cc_Dg_parentsOf 36 = .ok (.ifCond .eq 16, 3) := by decide +kernel
theorem dd_Dg_parentsOf_39 : decode cc_Dg_parentsOf 39 = .ok (.iload_n 3, 1) := by decide +kernel
theorem dd_Dg_parentsOf_40 : decode cc_Dg_parentsOf 40 = .ok (.aload_n 0, 1) := by decide +kernel
theorem dd_Dg_parentsOf_41 : decode cc_Dg_parentsOf 41 = .ok (.getfield 18, 3) := by decide +kernel
theorem dd_Dg_parentsOf_44 : decode cc_Dg_parentsOf 44 = .ok (.getfield 44, 3) := by decide +kernel
theorem dd_Dg_parentsOf_47 : decode cc_Dg_parentsOf 47 = .ok (.iload 5, 2) := by decide +kernel
theorem dd_Dg_parentsOf_49 : decode cc_Dg_parentsOf 49 = .ok (.iaload, 1) := by decide +kernel
theorem dd_Dg_parentsOf_50 : decode cc_Dg_parentsOf 50 = .ok (.ior, 1) := by decide +kernel
theorem dd_Dg_parentsOf_51 : decode cc_Dg_parentsOf 51 = .ok (.istore_n 3, 1) := by decide +kernel
theorem dd_Dg_parentsOf_52 : decode cc_Dg_parentsOf 52 = .ok (.iinc 4 1, 3) := by decide +kernel
theorem dd_Dg_parentsOf_55 : decode cc_Dg_parentsOf 55 = .ok (.goto (-50), 3) := by decide +kernel
theorem dd_Dg_parentsOf_58 : decode cc_Dg_parentsOf 58 = .ok (.iload_n 3, 1) := by decide +kernel
theorem dd_Dg_parentsOf_59 : decode cc_Dg_parentsOf 59 = .ok (.ireturn, 1) := by decide +kernel
theorem dd_Co_emit_0 : decode cc_Co_emit 0 = .ok (.aload_n 0, 1) := by decide +kernel
theorem dd_Co_emit_1 : decode cc_Co_emit 1 = .ok (.getfield 15, 3) := by decide +kernel
theorem dd_Co_emit_4 : decode cc_Co_emit 4 = .ok (.iload_n 2, 1) := by decide +kernel
theorem dd_Co_emit_5 : decode cc_Co_emit 5 = .ok (.iconst 1, 1) := by decide +kernel
theorem dd_Co_emit_6 : decode cc_Co_emit 6 = .ok (.iload_n 1, 1) := by decide +kernel
theorem dd_Co_emit_7 : decode cc_Co_emit 7 = .ok (.ishl, 1) := by decide +kernel
theorem dd_Co_emit_8 : decode cc_Co_emit 8 = .ok (.iastore, 1) := by decide +kernel
theorem dd_Co_emit_9 : decode cc_Co_emit 9 = .ok (.iload_n 2, 1) := by decide +kernel
theorem dd_Co_emit_10 : decode cc_Co_emit 10 = .ok (.iconst 1, 1) := by decide +kernel
theorem dd_Co_emit_11 : decode cc_Co_emit 11 = .ok (.isub, 1) := by decide +kernel
theorem dd_Co_emit_12 : decode cc_Co_emit 12 = .ok (.istore_n 3, 1) := by decide +kernel
theorem dd_Co_emit_13 : decode cc_Co_emit 13 = .ok (.iload_n 3, 1) := by decide +kernel
theorem dd_Co_emit_14 : decode cc_Co_emit 14 = .ok (.iconst 1, 1) := by decide +kernel
theorem dd_Co_emit_15 : decode cc_Co_emit 15 = .ok (.if_icmp .lt 33, 3) := by decide +kernel
theorem dd_Co_emit_18 : decode cc_Co_emit 18 = .ok (.aload_n 0, 1) := by decide +kernel
theorem dd_Co_emit_19 : decode cc_Co_emit 19 = .ok (.getfield 15, 3) := by decide +kernel
theorem dd_Co_emit_22 : decode cc_Co_emit 22 = .ok (.iload_n 3, 1) := by decide +kernel
theorem dd_Co_emit_23 : decode cc_Co_emit 23 = .ok (.aload_n 0, 1) := by decide +kernel
theorem dd_Co_emit_24 : decode cc_Co_emit 24 = .ok (.getfield 22, 3) := by decide +kernel
theorem dd_Co_emit_27 : decode cc_Co_emit 27 = .ok (.aload_n 0, 1) := by decide +kernel
theorem dd_Co_emit_28 : decode cc_Co_emit 28 = .ok (.getfield 15, 3) := by decide +kernel
theorem dd_Co_emit_31 : decode cc_Co_emit 31 = .ok (.iload_n 3, 1) := by decide +kernel
theorem dd_Co_emit_32 : decode cc_Co_emit 32 = .ok (.iconst 1, 1) := by decide +kernel
theorem dd_Co_emit_33 : decode cc_Co_emit 33 = .ok (.iadd, 1) := by decide +kernel
theorem dd_Co_emit_34 : decode cc_Co_emit 34 = .ok (.iaload, 1) := by decide +kernel
theorem dd_Co_emit_35 : decode cc_Co_emit 35 = .ok (.iload_n 3, 1) := by decide +kernel
theorem dd_Co_emit_36 : decode cc_Co_emit 36 = .ok (.iconst 1, 1) := by decide +kernel
theorem dd_Co_emit_37 : decode cc_Co_emit 37 = .ok (.iadd, 1) := by decide +kernel
theorem dd_Co_emit_38 : decode cc_Co_emit 38 = .ok (.invokevirtual 62, 3) := by decide +kernel
theorem dd_Co_emit_41 : decode cc_Co_emit 41 = .ok (.iastore, 1) := by decide +kernel
theorem dd_Co_emit_42 : decode cc_Co_emit 42 = .ok (.iinc 3 (-1), 3) := by decide +kernel
theorem dd_Co_emit_45 : decode cc_Co_emit 45 = .ok (.goto (-32), 3) := by decide +kernel
theorem dd_Co_emit_48 : decode cc_Co_emit 48 = .ok (.iconst 1, 1) := by decide +kernel
theorem dd_Co_emit_49 : decode cc_Co_emit 49 = .ok (.istore_n 3, 1) := by decide +kernel
theorem dd_Co_emit_50 : decode cc_Co_emit 50 = .ok (.iload_n 3, 1) := by decide +kernel
theorem dd_Co_emit_51 : decode cc_Co_emit 51 = .ok (.iload_n 2, 1) := by decide +kernel
theorem dd_Co_emit_52 : decode cc_Co_emit 52 = .ok (.if_icmp .gt 44, 3) := by decide +kernel
theorem dd_Co_emit_55 : decode cc_Co_emit 55 = .ok (.aload_n 0, 1) := by decide +kernel
theorem dd_Co_emit_56 : decode cc_Co_emit 56 = .ok (.iload_n 3, 1) := by decide +kernel
theorem dd_Co_emit_57 : decode cc_Co_emit 57 = .ok (.aload_n 0, 1) := by decide +kernel
theorem dd_Co_emit_58 : decode cc_Co_emit 58 = .ok (.getfield 15, 3) := by decide +kernel
theorem dd_Co_emit_61 : decode cc_Co_emit 61 = .ok (.iload_n 3, 1) := by decide +kernel
theorem dd_Co_emit_62 : decode cc_Co_emit 62 = .ok (.iaload, 1) := by decide +kernel
theorem dd_Co_emit_63 : decode cc_Co_emit 63 = .ok (.aload_n 0, 1) := by decide +kernel
theorem dd_Co_emit_64 : decode cc_Co_emit 64 = .ok (.getfield 9, 3) := by decide +kernel
theorem dd_Co_emit_67 : decode cc_Co_emit 67 = .ok (.iload_n 3, 1) := by decide +kernel
theorem dd_Co_emit_68 : decode cc_Co_emit 68 = .ok (.iaload, 1) := by decide +kernel
theorem dd_Co_emit_69 : decode cc_Co_emit 69 = .ok (.iconst (-1), 1) := by decide +kernel
theorem dd_Co_emit_70 : decode cc_Co_emit 70 = .ok (.ixor, 1) := by decide +kernel
theorem dd_Co_emit_71 : decode cc_Co_emit 71 = .ok (.iand, 1) := by decide +kernel
theorem dd_Co_emit_72 : decode cc_Co_emit 72 = .ok (.invokevirtual 65, 3) := by decide +kernel
theorem dd_Co_emit_75 : decode cc_Co_emit 75 = .ok (.aload_n 0, 1) := by decide +kernel
theorem dd_Co_emit_76 : decode cc_Co_emit 76 = .ok (.getfield 9, 3) := by decide +kernel
theorem dd_Co_emit_79 : decode cc_Co_emit 79 = .ok (.iload_n 3, 1) := by decide +kernel
theorem dd_Co_emit_80 : decode cc_Co_emit 80 = .ok (.dup2, 1) := by decide +kernel
theorem dd_Co_emit_81 : decode cc_Co_emit 81 = .ok (.iaload, 1) := by decide +kernel
theorem dd_Co_emit_82 : decode cc_Co_emit 82 = .ok (.aload_n 0, 1) := by decide +kernel
theorem dd_Co_emit_83 : decode cc_Co_emit 83 = .ok (.getfield 15, 3) := by decide +kernel
theorem dd_Co_emit_86 : decode cc_Co_emit 86 = .ok (.iload_n 3, 1) := by decide +kernel
theorem dd_Co_emit_87 : decode cc_Co_emit 87 = .ok (.iaload, 1) := by decide +kernel
theorem dd_Co_emit_88 : decode cc_Co_emit 88 = .ok (.ior, 1) := by decide +kernel
theorem dd_Co_emit_89 : decode cc_Co_emit 89 = .ok (.iastore, 1) := by decide +kernel
theorem dd_Co_emit_90 : decode cc_Co_emit 90 = .ok (.iinc 3 1, 3) := by decide +kernel
theorem dd_Co_emit_93 : decode cc_Co_emit 93 = .ok (.goto (-43), 3) := by decide +kernel
theorem dd_Co_emit_96 : decode cc_Co_emit 96 = .ok (.return_, 1) := by decide +kernel
theorem dd_Co_emitRound_0 : decode cc_Co_emitRound 0 = .ok (.iconst 0, 1) := by decide +kernel
theorem dd_Co_emitRound_1 : decode cc_Co_emitRound 1 = .ok (.istore_n 3, 1) := by decide +kernel
theorem dd_Co_emitRound_2 : decode cc_Co_emitRound 2 = .ok (.iload_n 3, 1) := by decide +kernel
theorem dd_Co_emitRound_3 : decode cc_Co_emitRound 3 = .ok (.iconst 4, 1) := by decide +kernel
theorem dd_Co_emitRound_4 : decode cc_Co_emitRound 4 = .ok (.if_icmp .ge 68, 3) := by decide +kernel
theorem dd_Co_emitRound_7 : decode cc_Co_emitRound 7 = .ok (.aload_n 0, 1) := by decide +kernel
theorem dd_Co_emitRound_8 : decode cc_Co_emitRound 8 = .ok (.getfield 22, 3) := by decide +kernel
theorem dd_Co_emitRound_11 : decode cc_Co_emitRound 11 = .ok (.iload_n 3, 1) := by decide +kernel
theorem dd_Co_emitRound_12 : decode cc_Co_emitRound 12 = .ok (.iload_n 1, 1) := by decide +kernel
theorem dd_Co_emitRound_13 : decode cc_Co_emitRound 13 = .ok (.invokevirtual 68, 3) := by decide +kernel
theorem dd_Co_emitRound_16 : decode cc_Co_emitRound 16 = .ok (.istore 4, 2) := by decide +kernel
theorem dd_Co_emitRound_18 : decode cc_Co_emitRound 18 = .ok (.iload 4, 2) := by decide +kernel
theorem dd_Co_emitRound_20 : decode cc_Co_emitRound 20 = .ok (.iconst (-1), 1) := by decide +kernel
theorem dd_Co_emitRound_21 : decode cc_Co_emitRound 21 = .ok (.if_icmp .eq 45, 3) := by decide +kernel
theorem dd_Co_emitRound_24 : decode cc_Co_emitRound 24 = .ok (.iload_n 2, 1) := by decide +kernel
theorem dd_Co_emitRound_25 : decode cc_Co_emitRound 25 = .ok (.iload_n 3, 1) := by decide +kernel
theorem dd_Co_emitRound_26 : decode cc_Co_emitRound 26 = .ok (.invokestatic 42, 3) := by decide +kernel
theorem dd_Co_emitRound_29 : decode cc_Co_emitRound 29 = .ok (.ifCond .eq 37, 3) := by decide +kernel
theorem dd_Co_emitRound_32 : decode cc_Co_emitRound 32 = .ok (.aload_n 0, 1) := by decide +kernel
theorem dd_Co_emitRound_33 : decode cc_Co_emitRound 33 = .ok (.getfield 26, 3) := by decide +kernel
theorem dd_Co_emitRound_36 : decode cc_Co_emitRound 36 = .ok (.aload_n 0, 1) := by decide +kernel
theorem dd_Co_emitRound_37 : decode cc_Co_emitRound 37 = .ok (.getfield 18, 3) := by decide +kernel
theorem dd_Co_emitRound_40 : decode cc_Co_emitRound 40 = .ok (.getfield 71, 3) := by decide +kernel
theorem dd_Co_emitRound_43 : decode cc_Co_emitRound 43 = .ok (.iload 4, 2) := by decide +kernel
theorem dd_Co_emitRound_45 : decode cc_Co_emitRound 45 = .ok (.iaload, 1) := by decide +kernel
theorem dd_Co_emitRound_46 : decode cc_Co_emitRound 46 = .ok (.invokevirtual 76, 3) := by decide +kernel
theorem dd_Co_emitRound_49 : decode cc_Co_emitRound 49 = .ok (.aload_n 0, 1) := by decide +kernel
theorem dd_Co_emitRound_50 : decode cc_Co_emitRound 50 = .ok (.getfield 26, 3) := by decide +kernel
theorem dd_Co_emitRound_53 : decode cc_Co_emitRound 53 = .ok (.aload_n 0, 1) := by decide +kernel
theorem dd_Co_emitRound_54 : decode cc_Co_emitRound 54 = .ok (.getfield 18, 3) := by decide +kernel
theorem dd_Co_emitRound_57 : decode cc_Co_emitRound 57 = .ok (.getfield 82, 3) := by decide +kernel
theorem dd_Co_emitRound_60 : decode cc_Co_emitRound 60 = .ok (.iload 4, 2) := by decide +kernel
theorem dd_Co_emitRound_62 : decode cc_Co_emitRound 62 = .ok (.iaload, 1) := by decide +kernel
theorem dd_Co_emitRound_63 : decode cc_Co_emitRound 63 = .ok (.invokevirtual 76, 3) := by decide +kernel
theorem dd_Co_emitRound_66 : decode cc_Co_emitRound 66 = .ok (.iinc 3 1, 3) := by decide +kernel
theorem dd_Co_emitRound_69 : decode cc_Co_emitRound 69 = .ok (.goto (-67), 3) := by decide +kernel
theorem dd_Co_emitRound_72 : decode cc_Co_emitRound 72 = .ok (.return_, 1) := by decide +kernel
theorem dd_Dg_find_0 : decode cc_Dg_find 0 = .ok (.aload_n 0, 1) := by decide +kernel
theorem dd_Dg_find_1 : decode cc_Dg_find 1 = .ok (.getfield 9, 3) := by decide +kernel
theorem dd_Dg_find_4 : decode cc_Dg_find 4 = .ok (.iload_n 2, 1) := by decide +kernel
theorem dd_Dg_find_5 : decode cc_Dg_find 5 = .ok (.iconst 4, 1) := by decide +kernel
theorem dd_Dg_find_6 : decode cc_Dg_find 6 = .ok (.imul, 1) := by decide +kernel
theorem dd_Dg_find_7 : decode cc_Dg_find 7 = .ok (.iload_n 1, 1) := by decide +kernel
theorem dd_Dg_find_8 : decode cc_Dg_find 8 = .ok (.iadd, 1) := by decide +kernel
theorem dd_Dg_find_9 : decode cc_Dg_find 9 = .ok (.iaload, 1) := by decide +kernel
theorem dd_Dg_find_10 : decode cc_Dg_find 10 = .ok (.ireturn, 1) := by decide +kernel
theorem dd_Bk_place_0 : decode cc_Bk_place 0 = .ok (.iload_n 1, 1) := by decide +kernel
theorem dd_Bk_place_1 : decode cc_Bk_place 1 = .ok (.iconst (-1), 1) := by decide +kernel
theorem dd_Bk_place_2 : decode cc_Bk_place 2 = .ok (.if_icmp .eq 16, 3) := by decide +kernel
theorem dd_Bk_place_5 : decode cc_Bk_place 5 = .ok (.aload_n 0, 1) := by decide +kernel
theorem dd_Bk_place_6 : decode cc_Bk_place 6 = .ok (.getfield 28, 3) := by decide +kernel
theorem dd_Bk_place_9 : decode cc_Bk_place 9 = .ok (.iload_n 1, 1) := by decide +kernel
theorem dd_Bk_place_10 : decode cc_Bk_place 10 = .ok (.lshr, 1) := by decide +kernel
theorem dd_Bk_place_11 : decode cc_Bk_place 11 = .ok (.lconst 1, 1) := by decide +kernel
theorem dd_Bk_place_12 : decode cc_Bk_place 12 = .ok (.land, 1) := by decide +kernel
theorem dd_Bk_place_13 : decode cc_Bk_place 13 = .ok (.lconst 1, 1) := by decide +kernel
theorem dd_Bk_place_14 : decode cc_Bk_place 14 = .ok (.lcmp, 1) := by decide +kernel
theorem dd_Bk_place_15 : decode cc_Bk_place 15 = .ok (.ifCond .ne 4, 3) := by decide +kernel
theorem dd_Bk_place_18 : decode cc_Bk_place 18 = .ok (.return_, 1) := by decide +kernel
theorem dd_Bk_place_19 : decode cc_Bk_place 19 = .ok (.aload_n 0, 1) := by decide +kernel
theorem dd_Bk_place_20 : decode cc_Bk_place 20 = .ok (.dup, 1) := by decide +kernel
theorem dd_Bk_place_21 : decode cc_Bk_place 21 = .ok (.getfield 28, 3) := by decide +kernel
theorem dd_Bk_place_24 : decode cc_Bk_place 24 = .ok (.lconst 1, 1) := by decide +kernel
theorem dd_Bk_place_25 : decode cc_Bk_place 25 = .ok (.iload_n 1, 1) := by decide +kernel
theorem dd_Bk_place_26 : decode cc_Bk_place 26 = .ok (.lshl, 1) := by decide +kernel
theorem dd_Bk_place_27 : decode cc_Bk_place 27 = .ok (.lor, 1) := by decide +kernel
theorem dd_Bk_place_28 : decode cc_Bk_place 28 = .ok (.putfield 28, 3) := by decide +kernel
theorem dd_Bk_place_31 : decode cc_Bk_place 31 = .ok (.aload_n 0, 1) := by decide +kernel
theorem dd_Bk_place_32 : decode cc_Bk_place 32 = .ok (.getfield 9, 3) := by decide +kernel
theorem dd_Bk_place_35 : decode cc_Bk_place 35 = .ok (.aload_n 0, 1) := by decide +kernel
theorem dd_Bk_place_36 : decode cc_Bk_place 36 = .ok (.getfield 32, 3) := by decide +kernel
theorem dd_Bk_place_39 : decode cc_Bk_place 39 = .ok (.iload_n 1, 1) := by decide +kernel
theorem dd_Bk_place_40 : decode cc_Bk_place 40 = .ok (.iastore, 1) := by decide +kernel
theorem dd_Bk_place_41 : decode cc_Bk_place 41 = .ok (.aload_n 0, 1) := by decide +kernel
theorem dd_Bk_place_42 : decode cc_Bk_place 42 = .ok (.dup, 1) := by decide +kernel
theorem dd_Bk_place_43 : decode cc_Bk_place 43 = .ok (.getfield 32, 3) := by decide +kernel
theorem dd_Bk_place_46 : decode cc_Bk_place 46 = .ok (.iconst 1, 1) := by decide +kernel
theorem dd_Bk_place_47 : decode cc_Bk_place 47 = .ok (.iadd, 1) := by decide +kernel
theorem dd_Bk_place_48 : decode cc_Bk_place 48 = .ok (.putfield 32, 3) := by decide +kernel
theorem dd_Bk_place_51 : decode cc_Bk_place 51 = .ok (.aload_n 0, 1) := by decide +kernel
theorem dd_Bk_place_52 : decode cc_Bk_place 52 = .ok (.getfield 18, 3) := by decide +kernel
theorem dd_Bk_place_55 : decode cc_Bk_place 55 = .ok (.getfield 36, 3) := by decide +kernel
theorem dd_Bk_place_58 : decode cc_Bk_place 58 = .ok (.iload_n 1, 1) := by decide +kernel
theorem dd_Bk_place_59 : decode cc_Bk_place 59 = .ok (.iaload, 1) := by decide +kernel
theorem dd_Bk_place_60 : decode cc_Bk_place 60 = .ok (.istore_n 2, 1) := by decide +kernel
theorem dd_Bk_place_61 : decode cc_Bk_place 61 = .ok (.aload_n 0, 1) := by decide +kernel
theorem dd_Bk_place_62 : decode cc_Bk_place 62 = .ok (.getfield 15, 3) := by decide +kernel
theorem dd_Bk_place_65 : decode cc_Bk_place 65 = .ok (.aload_n 0, 1) := by decide +kernel
theorem dd_Bk_place_66 : decode cc_Bk_place 66 = .ok (.getfield 18, 3) := by decide +kernel
theorem dd_Bk_place_69 : decode cc_Bk_place 69 = .ok (.getfield 41, 3) := by decide +kernel
theorem dd_Bk_place_72 : decode cc_Bk_place 72 = .ok (.iload_n 1, 1) := by decide +kernel
theorem dd_Bk_place_73 : decode cc_Bk_place 73 = .ok (.iaload, 1) := by decide +kernel
theorem dd_Bk_place_74 : decode cc_Bk_place 74 = .ok (.iaload, 1) := by decide +kernel
theorem dd_Bk_place_75 : decode cc_Bk_place 75 = .ok (.iload_n 2, 1) := by decide +kernel
theorem dd_Bk_place_76 : decode cc_Bk_place 76 = .ok (.if_icmp .lt 39, 3) := by decide +kernel
theorem dd_Bk_place_79 : decode cc_Bk_place 79 = .ok (.aload_n 0, 1) := by decide +kernel
theorem dd_Bk_place_80 : decode cc_Bk_place 80 = .ok (.getfield 15, 3) := by decide +kernel
theorem dd_Bk_place_83 : decode cc_Bk_place 83 = .ok (.aload_n 0, 1) := by decide +kernel
theorem dd_Bk_place_84 : decode cc_Bk_place 84 = .ok (.getfield 18, 3) := by decide +kernel
theorem dd_Bk_place_87 : decode cc_Bk_place 87 = .ok (.getfield 41, 3) := by decide +kernel
theorem dd_Bk_place_90 : decode cc_Bk_place 90 = .ok (.iload_n 1, 1) := by decide +kernel
theorem dd_Bk_place_91 : decode cc_Bk_place 91 = .ok (.iaload, 1) := by decide +kernel
theorem dd_Bk_place_92 : decode cc_Bk_place 92 = .ok (.dup2, 1) := by decide +kernel
theorem dd_Bk_place_93 : decode cc_Bk_place 93 = .ok (.iaload, 1) := by decide +kernel
theorem dd_Bk_place_94 : decode cc_Bk_place 94 = .ok (.iload_n 2, 1) := by decide +kernel
theorem dd_Bk_place_95 : decode cc_Bk_place 95 = .ok (.isub, 1) := by decide +kernel
theorem dd_Bk_place_96 : decode cc_Bk_place 96 = .ok (.iastore, 1) := by decide +kernel
theorem dd_Bk_place_97 : decode cc_Bk_place 97 = .ok (.aload_n 0, 1) := by decide +kernel
theorem dd_Bk_place_98 : decode cc_Bk_place 98 = .ok (.getfield 15, 3) := by decide +kernel
theorem dd_Bk_place_101 : decode cc_Bk_place 101 = .ok (.aload_n 0, 1) := by decide +kernel
theorem dd_Bk_place_102 : decode cc_Bk_place 102 = .ok (.getfield 18, 3) := by decide +kernel
theorem dd_Bk_place_105 : decode cc_Bk_place 105 = .ok (.getfield 44, 3) := by decide +kernel
theorem dd_Bk_place_108 : decode cc_Bk_place 108 = .ok (.iload_n 1, 1) := by decide +kernel
theorem dd_Bk_place_109 : decode cc_Bk_place 109 = .ok (.iaload, 1) := by decide +kernel
theorem dd_Bk_place_110 : decode cc_Bk_place 110 = .ok (.dup2, 1) := by decide +kernel
theorem dd_Bk_place_111 : decode cc_Bk_place 111 = .ok (.iaload, 1) := by decide +kernel
theorem dd_Bk_place_112 : decode cc_Bk_place 112 = .ok (.iload_n 2, 1) := by decide +kernel
theorem dd_Bk_place_113 : decode cc_Bk_place 113 = .ok (.iadd, 1) := by decide +kernel
theorem dd_Bk_place_114 : decode cc_Bk_place 114 = .ok (.iastore, 1) := by decide +kernel
theorem dd_Bk_place_115 : decode cc_Bk_place 115 = .ok (.return_, 1) := by decide +kernel
theorem dd_Dg_authorsOf_0 : decode cc_Dg_authorsOf 0 = .ok (.aload_n 0, 1) := by decide +kernel
theorem dd_Dg_authorsOf_1 : decode cc_Dg_authorsOf 1 = .ok (.getfield 15, 3) := by decide +kernel
theorem dd_Dg_authorsOf_4 : decode cc_Dg_authorsOf 4 = .ok (.iload_n 1, 1) := by decide +kernel
theorem dd_Dg_authorsOf_5 : decode cc_Dg_authorsOf 5 = .ok (.iaload, 1) := by decide +kernel
theorem dd_Dg_authorsOf_6 : decode cc_Dg_authorsOf 6 = .ok (.ireturn, 1) := by decide +kernel
theorem dd_Di_nextOfQueue_0 : decode cc_Di_nextOfQueue 0 = .ok (.aload_n 0, 1) := by decide +kernel
theorem dd_Di_nextOfQueue_1 : decode cc_Di_nextOfQueue 1 = .ok (.getfield 25, 3) := by decide +kernel
theorem dd_Di_nextOfQueue_4 : decode cc_Di_nextOfQueue 4 = .ok (.aload_n 0, 1) := by decide +kernel
theorem dd_Di_nextOfQueue_5 : decode cc_Di_nextOfQueue 5 = .ok (.getfield 21, 3) := by decide +kernel
theorem dd_Di_nextOfQueue_8 : decode cc_Di_nextOfQueue 8 = .ok (.if_icmp .lt 5, 3) := by decide +kernel
theorem dd_Di_nextOfQueue_11 : decode cc_Di_nextOfQueue 11 = .ok (.iconst (-1), 1) := by decide +kernel
theorem dd_Di_nextOfQueue_12 : decode cc_Di_nextOfQueue 12 = .ok (.ireturn, 1) := by decide +kernel
theorem dd_Di_nextOfQueue_13 : decode cc_Di_nextOfQueue 13 = .ok (.aload_n 0, 1) := by decide +kernel
theorem dd_Di_nextOfQueue_14 : decode cc_Di_nextOfQueue 14 = .ok (.dup, 1) := by decide +kernel
theorem dd_Di_nextOfQueue_15 : decode cc_Di_nextOfQueue 15 = .ok (.getfield 25, 3) := by decide +kernel
theorem dd_Di_nextOfQueue_18 : decode cc_Di_nextOfQueue 18 = .ok (.iconst 1, 1) := by decide +kernel
theorem dd_Di_nextOfQueue_19 : decode cc_Di_nextOfQueue 19 = .ok (.iadd, 1) := by decide +kernel
theorem dd_Di_nextOfQueue_20 : decode cc_Di_nextOfQueue 20 = .ok (.putfield 25, 3) := by decide +kernel
theorem dd_Di_nextOfQueue_23 : decode cc_Di_nextOfQueue 23 = .ok (.aload_n 0, 1) := by decide +kernel
theorem dd_Di_nextOfQueue_24 : decode cc_Di_nextOfQueue 24 = .ok (.getfield 9, 3) := by decide +kernel
theorem dd_Di_nextOfQueue_27 : decode cc_Di_nextOfQueue 27 = .ok (.aload_n 0, 1) := by decide +kernel
theorem dd_Di_nextOfQueue_28 : decode cc_Di_nextOfQueue 28 = .ok (.getfield 25, 3) := by decide +kernel
theorem dd_Di_nextOfQueue_31 : decode cc_Di_nextOfQueue 31 = .ok (.iconst 1, 1) := by decide +kernel
theorem dd_Di_nextOfQueue_32 : decode cc_Di_nextOfQueue 32 = .ok (.isub, 1) := by decide +kernel
theorem dd_Di_nextOfQueue_33 : decode cc_Di_nextOfQueue 33 = .ok (.iaload, 1) := by decide +kernel
theorem dd_Di_nextOfQueue_34 : decode cc_Di_nextOfQueue 34 = .ok (.ireturn, 1) := by decide +kernel
theorem dd_Ma_min_0 : decode cc_Ma_min 0 = .ok (.iload_n 0, 1) := by decide +kernel
theorem dd_Ma_min_1 : decode cc_Ma_min 1 = .ok (.iload_n 1, 1) := by decide +kernel
theorem dd_Ma_min_2 : decode cc_Ma_min 2 = .ok (.if_icmp .gt 7, 3) := by decide +kernel
theorem dd_Ma_min_5 : decode cc_Ma_min 5 = .ok (.iload_n 0, 1) := by decide +kernel
theorem dd_Ma_min_6 : decode cc_Ma_min 6 = .ok (.goto 4, 3) := by decide +kernel
theorem dd_Ma_min_9 : decode cc_Ma_min 9 = .ok (.iload_n 1, 1) := by decide +kernel
theorem dd_Ma_min_10 : decode cc_Ma_min 10 = .ok (.ireturn, 1) := by decide +kernel
theorem dd_Bk_open_0 : decode cc_Bk_open 0 = .ok (.aload_n 0, 1) := by decide +kernel
theorem dd_Bk_open_1 : decode cc_Bk_open 1 = .ok (.getfield 15, 3) := by decide +kernel
theorem dd_Bk_open_4 : decode cc_Bk_open 4 = .ok (.bipush 100, 2) := by decide +kernel
theorem dd_Bk_open_6 : decode cc_Bk_open 6 = .ok (.invokestatic 22, 3) := by decide +kernel
theorem dd_Bk_open_9 : decode cc_Bk_open 9 = .ok (.return_, 1) := by decide +kernel
theorem dd_Di_queueLength_0 : decode cc_Di_queueLength 0 = .ok (.aload_n 0, 1) := by decide +kernel
theorem dd_Di_queueLength_1 : decode cc_Di_queueLength 1 = .ok (.getfield 21, 3) := by decide +kernel
theorem dd_Di_queueLength_4 : decode cc_Di_queueLength 4 = .ok (.aload_n 0, 1) := by decide +kernel
theorem dd_Di_queueLength_5 : decode cc_Di_queueLength 5 = .ok (.getfield 25, 3) := by decide +kernel
theorem dd_Di_queueLength_8 : decode cc_Di_queueLength 8 = .ok (.isub, 1) := by decide +kernel
theorem dd_Di_queueLength_9 : decode cc_Di_queueLength 9 = .ok (.ireturn, 1) := by decide +kernel
