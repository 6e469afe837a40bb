theorem d_B_init_0 : decode c_B_init 0 = .ok (.aload_n 0, 1) := by decide +kernel
theorem d_B_init_1 : decode c_B_init 1 = .ok (.invokespecial 3, 3) := by decide +kernel
theorem d_B_init_4 : decode c_B_init 4 = .ok (.aload_n 0, 1) := by decide +kernel
theorem d_B_init_5 : decode c_B_init 5 = .ok (.sipush 157, 3) := by decide +kernel
theorem d_B_init_8 : decode c_B_init 8 = .ok (.newarray .long, 2) := by decide +kernel
theorem d_B_init_10 : decode c_B_init 10 = .ok (.putfield 11, 3) := by decide +kernel
theorem d_B_init_13 : decode c_B_init 13 = .ok (.return_, 1) := by decide +kernel
theorem d_B_keep_0 : decode c_B_keep 0 = .ok (.iload_n 1, 1) := by decide +kernel
theorem d_B_keep_1 : decode c_B_keep 1 = .ok (.ifCond .eq 21, 3) := by decide +kernel
theorem d_B_keep_4 : decode c_B_keep 4 = .ok (.aload_n 0, 1) := by decide +kernel
theorem d_B_keep_5 : decode c_B_keep 5 = .ok (.getfield 11, 3) := by decide +kernel
theorem d_B_keep_8 : decode c_B_keep 8 = .ok (.iload_n 1, 1) := by decide +kernel
theorem d_B_keep_9 : decode c_B_keep 9 = .ok (.bipush 64, 2) := by decide +kernel
theorem d_B_keep_11 : decode c_B_keep 11 = .ok (.idiv, 1) := by decide +kernel
theorem d_B_keep_12 : decode c_B_keep 12 = .ok (.dup2, 1) := by decide +kernel
theorem d_B_keep_13 : decode c_B_keep 13 = .ok (.laload, 1) := by decide +kernel
theorem d_B_keep_14 : decode c_B_keep 14 = .ok (.lconst 1, 1) := by decide +kernel
theorem d_B_keep_15 : decode c_B_keep 15 = .ok (.iload_n 1, 1) := by decide +kernel
theorem d_B_keep_16 : decode c_B_keep 16 = .ok (.bipush 64, 2) := by decide +kernel
theorem d_B_keep_18 : decode c_B_keep 18 = .ok (.irem, 1) := by decide +kernel
theorem d_B_keep_19 : decode c_B_keep 19 = .ok (.lshl, 1) := by decide +kernel
theorem d_B_keep_20 : decode c_B_keep 20 = .ok (.lor, 1) := by decide +kernel
theorem d_B_keep_21 : decode c_B_keep 21 = .ok (.lastore, 1) := by decide +kernel
theorem d_B_keep_22 : decode c_B_keep 22 = .ok (.return_, 1) := by decide +kernel
theorem d_B_clear_0 : decode c_B_clear 0 = .ok (.iconst 0, 1) := by decide +kernel
theorem d_B_clear_1 : decode c_B_clear 1 = .ok (.istore_n 1, 1) := by decide +kernel
theorem d_B_clear_2 : decode c_B_clear 2 = .ok (.iload_n 1, 1) := by decide +kernel
theorem d_B_clear_3 : decode c_B_clear 3 = .ok (.aload_n 0, 1) := by decide +kernel
theorem d_B_clear_4 : decode c_B_clear 4 = .ok (.getfield 11, 3) := by decide +kernel
theorem d_B_clear_7 : decode c_B_clear 7 = .ok (.arraylength, 1) := by decide +kernel
theorem d_B_clear_8 : decode c_B_clear 8 = .ok (.if_icmp .ge 16, 3) := by decide +kernel
theorem d_B_clear_11 : decode c_B_clear 11 = .ok (.aload_n 0, 1) := by decide +kernel
theorem d_B_clear_12 : decode c_B_clear 12 = .ok (.getfield 11, 3) := by decide +kernel
theorem d_B_clear_15 : decode c_B_clear 15 = .ok (.iload_n 1, 1) := by decide +kernel
theorem d_B_clear_16 : decode c_B_clear 16 = .ok (.lconst 0, 1) := by decide +kernel
theorem d_B_clear_17 : decode c_B_clear 17 = .ok (.lastore, 1) := by decide +kernel
theorem d_B_clear_18 : decode c_B_clear 18 = .ok (.iinc 1 1, 3) := by decide +kernel
theorem d_B_clear_21 : decode c_B_clear 21 = .ok (.goto (-19), 3) := by decide +kernel
theorem d_B_clear_24 : decode c_B_clear 24 = .ok (.return_, 1) := by decide +kernel
theorem d_B_size_0 : decode c_B_size 0 = .ok (.iconst 0, 1) := by decide +kernel
theorem d_B_size_1 : decode c_B_size 1 = .ok (.istore_n 1, 1) := by decide +kernel
theorem d_B_size_2 : decode c_B_size 2 = .ok (.iconst 0, 1) := by decide +kernel
theorem d_B_size_3 : decode c_B_size 3 = .ok (.istore_n 2, 1) := by decide +kernel
theorem d_B_size_4 : decode c_B_size 4 = .ok (.iload_n 2, 1) := by decide +kernel
theorem d_B_size_5 : decode c_B_size 5 = .ok (.aload_n 0, 1) := by decide +kernel
theorem d_B_size_6 : decode c_B_size 6 = .ok (.getfield 11, 3) := by decide +kernel
theorem d_B_size_9 : decode c_B_size 9 = .ok (.arraylength, 1) := by decide +kernel
theorem d_B_size_10 : decode c_B_size 10 = .ok (.if_icmp .ge 21, 3) := by decide +kernel
theorem d_B_size_13 : decode c_B_size 13 = .ok (.iload_n 1, 1) := by decide +kernel
theorem d_B_size_14 : decode c_B_size 14 = .ok (.aload_n 0, 1) := by decide +kernel
theorem d_B_size_15 : decode c_B_size 15 = .ok (.getfield 11, 3) := by decide +kernel
theorem d_B_size_18 : decode c_B_size 18 = .ok (.iload_n 2, 1) := by decide +kernel
theorem d_B_size_19 : decode c_B_size 19 = .ok (.laload, 1) := by decide +kernel
theorem d_B_size_20 : decode c_B_size 20 = .ok (.invokestatic 15, 3) := by decide +kernel
theorem d_B_size_23 : decode c_B_size 23 = .ok (.iadd, 1) := by decide +kernel
theorem d_B_size_24 : decode c_B_size 24 = .ok (.istore_n 1, 1) := by decide +kernel
theorem d_B_size_25 : decode c_B_size 25 = .ok (.iinc 2 1, 3) := by decide +kernel
theorem d_B_size_28 : decode c_B_size 28 = .ok (.goto (-24), 3) := by decide +kernel
theorem d_B_size_31 : decode c_B_size 31 = .ok (.iload_n 1, 1) := by decide +kernel
theorem d_B_size_32 : decode c_B_size 32 = .ok (.ireturn, 1) := by decide +kernel
theorem d_W_init_0 : decode c_W_init 0 = .ok (.aload_n 0, 1) := by decide +kernel
theorem d_W_init_1 : decode c_W_init 1 = .ok (.invokespecial 3, 3) := by decide +kernel
theorem d_W_init_4 : decode c_W_init 4 = .ok (.aload_n 0, 1) := by decide +kernel
theorem d_W_init_5 : decode c_W_init 5 = .ok (.iload_n 1, 1) := by decide +kernel
theorem d_W_init_6 : decode c_W_init 6 = .ok (.iconst 1, 1) := by decide +kernel
theorem d_W_init_7 : decode c_W_init 7 = .ok (.iadd, 1) := by decide +kernel
theorem d_W_init_8 : decode c_W_init 8 = .ok (.iconst 4, 1) := by decide +kernel
theorem d_W_init_9 : decode c_W_init 9 = .ok (.imul, 1) := by decide +kernel
theorem d_W_init_10 : decode c_W_init 10 = .ok (.newarray .int, 2) := by decide +kernel
theorem d_W_init_12 : decode c_W_init 12 = .ok (.putfield 9, 3) := by decide +kernel
theorem d_W_init_15 : decode c_W_init 15 = .ok (.aload_n 0, 1) := by decide +kernel
theorem d_W_init_16 : decode c_W_init 16 = .ok (.iload_n 1, 1) := by decide +kernel
theorem d_W_init_17 : decode c_W_init 17 = .ok (.iconst 1, 1) := by decide +kernel
theorem d_W_init_18 : decode c_W_init 18 = .ok (.iadd, 1) := by decide +kernel
theorem d_W_init_19 : decode c_W_init 19 = .ok (.newarray .boolean, 2) := by decide +kernel
theorem d_W_init_21 : decode c_W_init 21 = .ok (.putfield 15, 3) := by decide +kernel
theorem d_W_init_24 : decode c_W_init 24 = .ok (.return_, 1) := by decide +kernel
theorem d_W_get_0 : decode c_W_get 0 = .ok (.aload_n 0, 1) := by decide +kernel
theorem d_W_get_1 : decode c_W_get 1 = .ok (.getfield 9, 3) := by decide +kernel
theorem d_W_get_4 : decode c_W_get 4 = .ok (.iload_n 1, 1) := by decide +kernel
theorem d_W_get_5 : decode c_W_get 5 = .ok (.iconst 4, 1) := by decide +kernel
theorem d_W_get_6 : decode c_W_get 6 = .ok (.imul, 1) := by decide +kernel
theorem d_W_get_7 : decode c_W_get 7 = .ok (.iload_n 2, 1) := by decide +kernel
theorem d_W_get_8 : decode c_W_get 8 = .ok (.iadd, 1) := by decide +kernel
theorem d_W_get_9 : decode c_W_get 9 = .ok (.iaload, 1) := by decide +kernel
theorem d_W_get_10 : decode c_W_get 10 = .ok (.ireturn, 1) := by decide +kernel
theorem d_W_keep_0 : decode c_W_keep 0 = .ok (.iconst 1, 1) := by decide +kernel
theorem d_W_keep_1 : decode c_W_keep 1 = .ok (.istore_n 3, 1) := by decide +kernel
theorem d_W_keep_2 : decode c_W_keep 2 = .ok (.iload_n 3, 1) := by decide +kernel
theorem d_W_keep_3 : decode c_W_keep 3 = .ok (.aload_n 0, 1) := by decide +kernel
theorem d_W_keep_4 : decode c_W_keep 4 = .ok (.getfield 19, 3) := by decide +kernel
theorem d_W_keep_7 : decode c_W_keep 7 = .ok (.if_icmp .gt 19, 3) := by decide +kernel
theorem d_W_keep_10 : decode c_W_keep 10 = .ok (.aload_n 0, 1) := by decide +kernel
theorem d_W_keep_11 : decode c_W_keep 11 = .ok (.iload_n 3, 1) := by decide +kernel
theorem d_W_keep_12 : decode c_W_keep 12 = .ok (.aload_n 1, 1) := by decide +kernel
theorem d_W_keep_13 : decode c_W_keep 13 = .ok (.iload_n 2, 1) := by decide +kernel
theorem d_W_keep_14 : decode c_W_keep 14 = .ok (.invokevirtual 23, 3) := by decide +kernel
theorem d_W_keep_17 : decode c_W_keep 17 = .ok (.ifCond .ne 9, 3) := by decide +kernel
theorem d_W_keep_20 : decode c_W_keep 20 = .ok (.iinc 3 1, 3) := by decide +kernel
theorem d_W_keep_23 : decode c_W_keep 23 = .ok (.goto (-21), 3) := by decide +kernel
theorem d_W_keep_26 : decode c_W_keep 26 = .ok (.iload_n 3, 1) := by decide +kernel
theorem d_W_keep_27 : decode c_W_keep 27 = .ok (.aload_n 0, 1) := by decide +kernel
theorem d_W_keep_28 : decode c_W_keep 28 = .ok (.getfield 19, 3) := by decide +kernel
theorem d_W_keep_31 : decode c_W_keep 31 = .ok (.if_icmp .le 21, 3) := by decide +kernel
theorem d_W_keep_34 : decode c_W_keep 34 = .ok (.aload_n 1, 1) := by decide +kernel
theorem d_W_keep_35 : decode c_W_keep 35 = .ok (.iload_n 2, 1) := by decide +kernel
theorem d_W_keep_36 : decode c_W_keep 36 = .ok (.aload_n 0, 1) := by decide +kernel
theorem d_W_keep_37 : decode c_W_keep 37 = .ok (.getfield 9, 3) := by decide +kernel
theorem d_W_keep_40 : decode c_W_keep 40 = .ok (.iload_n 3, 1) := by decide +kernel
theorem d_W_keep_41 : decode c_W_keep 41 = .ok (.iconst 4, 1) := by decide +kernel
theorem d_W_keep_42 : decode c_W_keep 42 = .ok (.imul, 1) := by decide +kernel
theorem d_W_keep_43 : decode c_W_keep 43 = .ok (.iconst 4, 1) := by decide +kernel
theorem d_W_keep_44 : decode c_W_keep 44 = .ok (.invokestatic 27, 3) := by decide +kernel
theorem d_W_keep_47 : decode c_W_keep 47 = .ok (.aload_n 0, 1) := by decide +kernel
theorem d_W_keep_48 : decode c_W_keep 48 = .ok (.iload_n 3, 1) := by decide +kernel
theorem d_W_keep_49 : decode c_W_keep 49 = .ok (.putfield 19, 3) := by decide +kernel
theorem d_W_keep_52 : decode c_W_keep 52 = .ok (.aload_n 0, 1) := by decide +kernel
theorem d_W_keep_53 : decode c_W_keep 53 = .ok (.getfield 15, 3) := by decide +kernel
theorem d_W_keep_56 : decode c_W_keep 56 = .ok (.iload_n 3, 1) := by decide +kernel
theorem d_W_keep_57 : decode c_W_keep 57 = .ok (.iconst 1, 1) := by decide +kernel
theorem d_W_keep_58 : decode c_W_keep 58 = .ok (.bastore, 1) := by decide +kernel
theorem d_W_keep_59 : decode c_W_keep 59 = .ok (.iload_n 3, 1) := by decide +kernel
theorem d_W_keep_60 : decode c_W_keep 60 = .ok (.ireturn, 1) := by decide +kernel
theorem d_W_isAlike_0 : decode c_W_isAlike 0 = .ok (.iconst 0, 1) := by decide +kernel
theorem d_W_isAlike_1 : decode c_W_isAlike 1 = .ok (.istore 4, 2) := by decide +kernel
theorem d_W_isAlike_3 : decode c_W_isAlike 3 = .ok (.iload 4, 2) := by decide +kernel
theorem d_W_isAlike_5 : decode c_W_isAlike 5 = .ok (.iconst 4, 1) := by decide +kernel
theorem d_W_isAlike_6 : decode c_W_isAlike 6 = .ok (.if_icmp .ge 31, 3) := by decide +kernel
theorem d_W_isAlike_9 : decode c_W_isAlike 9 = .ok (.aload_n 0, 1) := by decide +kernel
theorem d_W_isAlike_10 : decode c_W_isAlike 10 = .ok (.getfield 9, 3) := by decide +kernel
theorem d_W_isAlike_13 : decode c_W_isAlike 13 = .ok (.iload_n 1, 1) := by decide +kernel
theorem d_W_isAlike_14 : decode c_W_isAlike 14 = .ok (.iconst 4, 1) := by decide +kernel
theorem d_W_isAlike_15 : decode c_W_isAlike 15 = .ok (.imul, 1) := by decide +kernel
theorem d_W_isAlike_16 : decode c_W_isAlike 16 = .ok (.iload 4, 2) := by decide +kernel
theorem d_W_isAlike_18 : decode c_W_isAlike 18 = .ok (.iadd, 1) := by decide +kernel
theorem d_W_isAlike_19 : decode c_W_isAlike 19 = .ok (.iaload, 1) := by decide +kernel
theorem d_W_isAlike_20 : decode c_W_isAlike 20 = .ok (.aload_n 2, 1) := by decide +kernel
theorem d_W_isAlike_21 : decode c_W_isAlike 21 = .ok (.iload_n 3, 1) := by decide +kernel
theorem d_W_isAlike_22 : decode c_W_isAlike 22 = .ok (.iload 4, 2) := by decide +kernel
theorem d_W_isAlike_24 : decode c_W_isAlike 24 = .ok (.iadd, 1) := by decide +kernel
theorem d_W_isAlike_25 : decode c_W_isAlike 25 = .ok (.iaload, 1) := by decide +kernel
theorem d_W_isAlike_26 : decode c_W_isAlike 26 = .ok (.if_icmp .eq 5, 3) := by decide +kernel
theorem d_W_isAlike_29 : decode c_W_isAlike 29 = .ok (.iconst 0, 1) := by decide +kernel
theorem d_W_isAlike_30 : decode c_W_isAlike 30 = .ok (.ireturn, 1) := by decide +kernel
theorem d_W_isAlike_31 : decode c_W_isAlike 31 = .ok (.iinc 4 1, 3) := by decide +kernel
theorem d_W_isAlike_34 : decode c_W_isAlike 34 = .ok (.goto (-31), 3) := by decide +kernel
theorem d_W_isAlike_37 : decode c_W_isAlike 37 = .ok (.iconst 1, 1) := by decide +kernel
theorem d_W_isAlike_38 : decode c_W_isAlike 38 = .ok (.ireturn, 1) := by decide +kernel
theorem d_W_keepAgain_0 : decode c_W_keepAgain 0 = .ok (.aload_n 0, 1) := by decide +kernel
theorem d_W_keepAgain_1 : decode c_W_keepAgain 1 = .ok (.getfield 15, 3) := by decide +kernel
theorem d_W_keepAgain_4 : decode c_W_keepAgain 4 = .ok (.iload_n 1, 1) := by decide +kernel
theorem d_W_keepAgain_5 : decode c_W_keepAgain 5 = .ok (.iconst 1, 1) := by decide +kernel
theorem d_W_keepAgain_6 : decode c_W_keepAgain 6 = .ok (.bastore, 1) := by decide +kernel
theorem d_W_keepAgain_7 : decode c_W_keepAgain 7 = .ok (.return_, 1) := by decide +kernel
theorem d_W_clear_0 : decode c_W_clear 0 = .ok (.iconst 0, 1) := by decide +kernel
theorem d_W_clear_1 : decode c_W_clear 1 = .ok (.istore_n 1, 1) := by decide +kernel
theorem d_W_clear_2 : decode c_W_clear 2 = .ok (.iload_n 1, 1) := by decide +kernel
theorem d_W_clear_3 : decode c_W_clear 3 = .ok (.aload_n 0, 1) := by decide +kernel
theorem d_W_clear_4 : decode c_W_clear 4 = .ok (.getfield 15, 3) := by decide +kernel
theorem d_W_clear_7 : decode c_W_clear 7 = .ok (.arraylength, 1) := by decide +kernel
theorem d_W_clear_8 : decode c_W_clear 8 = .ok (.if_icmp .ge 16, 3) := by decide +kernel
theorem d_W_clear_11 : decode c_W_clear 11 = .ok (.aload_n 0, 1) := by decide +kernel
theorem d_W_clear_12 : decode c_W_clear 12 = .ok (.getfield 15, 3) := by decide +kernel
theorem d_W_clear_15 : decode c_W_clear 15 = .ok (.iload_n 1, 1) := by decide +kernel
theorem d_W_clear_16 : decode c_W_clear 16 = .ok (.iconst 0, 1) := by decide +kernel
theorem d_W_clear_17 : decode c_W_clear 17 = .ok (.bastore, 1) := by decide +kernel
theorem d_W_clear_18 : decode c_W_clear 18 = .ok (.iinc 1 1, 3) := by decide +kernel
theorem d_W_clear_21 : decode c_W_clear 21 = .ok (.goto (-19), 3) := by decide +kernel
theorem d_W_clear_24 : decode c_W_clear 24 = .ok (.return_, 1) := by decide +kernel
theorem d_W_size_0 : decode c_W_size 0 = .ok (.iconst 0, 1) := by decide +kernel
theorem d_W_size_1 : decode c_W_size 1 = .ok (.istore_n 1, 1) := by decide +kernel
theorem d_W_size_2 : decode c_W_size 2 = .ok (.iconst 1, 1) := by decide +kernel
theorem d_W_size_3 : decode c_W_size 3 = .ok (.istore_n 2, 1) := by decide +kernel
theorem d_W_size_4 : decode c_W_size 4 = .ok (.iload_n 2, 1) := by decide +kernel
theorem d_W_size_5 : decode c_W_size 5 = .ok (.aload_n 0, 1) := by decide +kernel
theorem d_W_size_6 : decode c_W_size 6 = .ok (.getfield 19, 3) := by decide +kernel
theorem d_W_size_9 : decode c_W_size 9 = .ok (.if_icmp .gt 21, 3) := by decide +kernel
theorem d_W_size_12 : decode c_W_size 12 = .ok (.aload_n 0, 1) := by decide +kernel
theorem d_W_size_13 : decode c_W_size 13 = .ok (.getfield 15, 3) := by decide +kernel
theorem d_W_size_16 : decode c_W_size 16 = .ok (.iload_n 2, 1) := by decide +kernel
theorem d_W_size_17 : decode c_W_size 17 = .ok (.baload, 1) := by decide +kernel
theorem d_W_size_18 : decode c_W_size 18 = .ok (.ifCond .eq 6, 3) := by decide +kernel
theorem d_W_size_21 : decode c_W_size 21 = .ok (.iinc 1 1, 3) := by decide +kernel
theorem d_W_size_24 : decode c_W_size 24 = .ok (.iinc 2 1, 3) := by decide +kernel
theorem d_W_size_27 : decode c_W_size 27 = .ok (.goto (-23), 3) := by decide +kernel
theorem d_W_size_30 : decode c_W_size 30 = .ok (.iload_n 1, 1) := by decide +kernel
theorem d_W_size_31 : decode c_W_size 31 = .ok (.ireturn, 1) := by decide +kernel
theorem d_S_init_0 : decode c_S_init 0 = .ok (.aload_n 0, 1) := by decide +kernel
theorem d_S_init_1 : decode c_S_init 1 = .ok (.invokespecial 3, 3) := by decide +kernel
theorem d_S_init_4 : decode c_S_init 4 = .ok (.aload_n 0, 1) := by decide +kernel
theorem d_S_init_5 : decode c_S_init 5 = .ok (.new 9, 3) := by decide +kernel
theorem d_S_init_8 : decode c_S_init 8 = .ok (.dup, 1) := by decide +kernel
theorem d_S_init_9 : decode c_S_init 9 = .ok (.invokespecial 11, 3) := by decide +kernel
theorem d_S_init_12 : decode c_S_init 12 = .ok (.putfield 12, 3) := by decide +kernel
theorem d_S_init_15 : decode c_S_init 15 = .ok (.aload_n 0, 1) := by decide +kernel
theorem d_S_init_16 : decode c_S_init 16 = .ok (.new 18, 3) := by decide +kernel
theorem d_S_init_19 : decode c_S_init 19 = .ok (.dup, 1) := by decide +kernel
theorem d_S_init_20 : decode c_S_init 20 = .ok (.bipush 120, 2) := by decide +kernel
theorem d_S_init_22 : decode c_S_init 22 = .ok (.invokespecial 20, 3) := by decide +kernel
theorem d_S_init_25 : decode c_S_init 25 = .ok (.putfield 23, 3) := by decide +kernel
theorem d_S_init_28 : decode c_S_init 28 = .ok (.aload_n 0, 1) := by decide +kernel
theorem d_S_init_29 : decode c_S_init 29 = .ok (.new 18, 3) := by decide +kernel
theorem d_S_init_32 : decode c_S_init 32 = .ok (.dup, 1) := by decide +kernel
theorem d_S_init_33 : decode c_S_init 33 = .ok (.bipush 30, 2) := by decide +kernel
theorem d_S_init_35 : decode c_S_init 35 = .ok (.invokespecial 20, 3) := by decide +kernel
theorem d_S_init_38 : decode c_S_init 38 = .ok (.putfield 27, 3) := by decide +kernel
theorem d_S_init_41 : decode c_S_init 41 = .ok (.aload_n 0, 1) := by decide +kernel
theorem d_S_init_42 : decode c_S_init 42 = .ok (.bipush 31, 2) := by decide +kernel
theorem d_S_init_44 : decode c_S_init 44 = .ok (.newarray .int, 2) := by decide +kernel
theorem d_S_init_46 : decode c_S_init 46 = .ok (.putfield 30, 3) := by decide +kernel
theorem d_S_init_49 : decode c_S_init 49 = .ok (.aload_n 0, 1) := by decide +kernel
theorem d_S_init_50 : decode c_S_init 50 = .ok (.bipush 31, 2) := by decide +kernel
theorem d_S_init_52 : decode c_S_init 52 = .ok (.newarray .int, 2) := by decide +kernel
theorem d_S_init_54 : decode c_S_init 54 = .ok (.putfield 34, 3) := by decide +kernel
theorem d_S_init_57 : decode c_S_init 57 = .ok (.aload_n 0, 1) := by decide +kernel
theorem d_S_init_58 : decode c_S_init 58 = .ok (.bipush 31, 2) := by decide +kernel
theorem d_S_init_60 : decode c_S_init 60 = .ok (.newarray .int, 2) := by decide +kernel
theorem d_S_init_62 : decode c_S_init 62 = .ok (.putfield 37, 3) := by decide +kernel
theorem d_S_init_65 : decode c_S_init 65 = .ok (.aload_n 0, 1) := by decide +kernel
theorem d_S_init_66 : decode c_S_init 66 = .ok (.bipush 31, 2) := by decide +kernel
theorem d_S_init_68 : decode c_S_init 68 = .ok (.newarray .int, 2) := by decide +kernel
theorem d_S_init_70 : decode c_S_init 70 = .ok (.putfield 40, 3) := by decide +kernel
theorem d_S_init_73 : decode c_S_init 73 = .ok (.aload_n 0, 1) := by decide +kernel
theorem d_S_init_74 : decode c_S_init 74 = .ok (.iconst 4, 1) := by decide +kernel
theorem d_S_init_75 : decode c_S_init 75 = .ok (.newarray .int, 2) := by decide +kernel
theorem d_S_init_77 : decode c_S_init 77 = .ok (.putfield 43, 3) := by decide +kernel
theorem d_S_init_80 : decode c_S_init 80 = .ok (.return_, 1) := by decide +kernel
theorem d_S_isFull_0 : decode c_S_isFull 0 = .ok (.aload_n 0, 1) := by decide +kernel
theorem d_S_isFull_1 : decode c_S_isFull 1 = .ok (.getfield 46, 3) := by decide +kernel
theorem d_S_isFull_4 : decode c_S_isFull 4 = .ok (.bipush 30, 2) := by decide +kernel
theorem d_S_isFull_6 : decode c_S_isFull 6 = .ok (.if_icmp .lt 7, 3) := by decide +kernel
theorem d_S_isFull_9 : decode c_S_isFull 9 = .ok (.iconst 1, 1) := by decide +kernel
theorem d_S_isFull_10 : decode c_S_isFull 10 = .ok (.goto 4, 3) := by decide +kernel
theorem d_S_isFull_13 : decode c_S_isFull 13 = .ok (.iconst 0, 1) := by decide +kernel
theorem d_S_isFull_14 : decode c_S_isFull 14 = .ok (.ireturn, 1) := by decide +kernel
theorem d_S_holds_0 : decode c_S_holds 0 = .ok (.iload_n 1, 1) := by decide +kernel
theorem d_S_holds_1 : decode c_S_holds 1 = .ok (.iconst 1, 1) := by decide +kernel
theorem d_S_holds_2 : decode c_S_holds 2 = .ok (.if_icmp .lt 24, 3) := by decide +kernel
theorem d_S_holds_5 : decode c_S_holds 5 = .ok (.iload_n 1, 1) := by decide +kernel
theorem d_S_holds_6 : decode c_S_holds 6 = .ok (.bipush 30, 2) := by decide +kernel
theorem d_S_holds_8 : decode c_S_holds 8 = .ok (.if_icmp .gt 18, 3) := by decide +kernel
theorem d_S_holds_11 : decode c_S_holds 11 = .ok (.aload_n 0, 1) := by decide +kernel
theorem d_S_holds_12 : decode c_S_holds 12 = .ok (.getfield 50, 3) := by decide +kernel
theorem d_S_holds_15 : decode c_S_holds 15 = .ok (.iconst 1, 1) := by decide +kernel
theorem d_S_holds_16 : decode c_S_holds 16 = .ok (.iload_n 1, 1) := by decide +kernel
theorem d_S_holds_17 : decode c_S_holds 17 = .ok (.ishl, 1) := by decide +kernel
theorem d_S_holds_18 : decode c_S_holds 18 = .ok (.iand, 1) := by decide +kernel
theorem d_S_holds_19 : decode c_S_holds 19 = .ok (.ifCond .eq 7, 3) := by decide +kernel
theorem d_S_holds_22 : decode c_S_holds 22 = .ok (.iconst 1, 1) := by decide +kernel
theorem d_S_holds_23 : decode c_S_holds 23 = .ok (.goto 4, 3) := by decide +kernel
theorem d_S_holds_26 : decode c_S_holds 26 = .ok (.iconst 0, 1) := by decide +kernel
theorem d_S_holds_27 : decode c_S_holds 27 = .ok (.ireturn, 1) := by decide +kernel
theorem d_S_commits_0 : decode c_S_commits 0 = .ok (.aload_n 0, 1) := by decide +kernel
theorem d_S_commits_1 : decode c_S_commits 1 = .ok (.getfield 50, 3) := by decide +kernel
theorem d_S_commits_4 : decode c_S_commits 4 = .ok (.invokestatic 53, 3) := by decide +kernel
theorem d_S_commits_7 : decode c_S_commits 7 = .ok (.ireturn, 1) := by decide +kernel
theorem d_S_size_0 : decode c_S_size 0 = .ok (.aload_n 0, 1) := by decide +kernel
theorem d_S_size_1 : decode c_S_size 1 = .ok (.getfield 12, 3) := by decide +kernel
theorem d_S_size_4 : decode c_S_size 4 = .ok (.invokevirtual 59, 3) := by decide +kernel
theorem d_S_size_7 : decode c_S_size 7 = .ok (.aload_n 0, 1) := by decide +kernel
theorem d_S_size_8 : decode c_S_size 8 = .ok (.getfield 23, 3) := by decide +kernel
theorem d_S_size_11 : decode c_S_size 11 = .ok (.invokevirtual 63, 3) := by decide +kernel
theorem d_S_size_14 : decode c_S_size 14 = .ok (.iadd, 1) := by decide +kernel
theorem d_S_size_15 : decode c_S_size 15 = .ok (.aload_n 0, 1) := by decide +kernel
theorem d_S_size_16 : decode c_S_size 16 = .ok (.getfield 27, 3) := by decide +kernel
theorem d_S_size_19 : decode c_S_size 19 = .ok (.invokevirtual 63, 3) := by decide +kernel
theorem d_S_size_22 : decode c_S_size 22 = .ok (.iadd, 1) := by decide +kernel
theorem d_S_size_23 : decode c_S_size 23 = .ok (.aload_n 0, 1) := by decide +kernel
theorem d_S_size_24 : decode c_S_size 24 = .ok (.invokevirtual 64, 3) := by decide +kernel
theorem d_S_size_27 : decode c_S_size 27 = .ok (.iadd, 1) := by decide +kernel
theorem d_S_size_28 : decode c_S_size 28 = .ok (.ireturn, 1) := by decide +kernel
theorem d_S_contentOf_0 : decode c_S_contentOf 0 = .ok (.aload_n 0, 1) := by decide +kernel
theorem d_S_contentOf_1 : decode c_S_contentOf 1 = .ok (.getfield 23, 3) := by decide +kernel
theorem d_S_contentOf_4 : decode c_S_contentOf 4 = .ok (.aload_n 0, 1) := by decide +kernel
theorem d_S_contentOf_5 : decode c_S_contentOf 5 = .ok (.getfield 27, 3) := by decide +kernel
theorem d_S_contentOf_8 : decode c_S_contentOf 8 = .ok (.aload_n 0, 1) := by decide +kernel
theorem d_S_contentOf_9 : decode c_S_contentOf 9 = .ok (.getfield 30, 3) := by decide +kernel
theorem d_S_contentOf_12 : decode c_S_contentOf 12 = .ok (.iload_n 1, 1) := by decide +kernel
theorem d_S_contentOf_13 : decode c_S_contentOf 13 = .ok (.iaload, 1) := by decide +kernel
theorem d_S_contentOf_14 : decode c_S_contentOf 14 = .ok (.iload_n 2, 1) := by decide +kernel
theorem d_S_contentOf_15 : decode c_S_contentOf 15 = .ok (.iconst 4, 1) := by decide +kernel
theorem d_S_contentOf_16 : decode c_S_contentOf 16 = .ok (.idiv, 1) := by decide +kernel
theorem d_S_contentOf_17 : decode c_S_contentOf 17 = .ok (.invokevirtual 67, 3) := by decide +kernel
theorem d_S_contentOf_20 : decode c_S_contentOf 20 = .ok (.iload_n 2, 1) := by decide +kernel
theorem d_S_contentOf_21 : decode c_S_contentOf 21 = .ok (.iconst 4, 1) := by decide +kernel
theorem d_S_contentOf_22 : decode c_S_contentOf 22 = .ok (.irem, 1) := by decide +kernel
theorem d_S_contentOf_23 : decode c_S_contentOf 23 = .ok (.invokevirtual 67, 3) := by decide +kernel
theorem d_S_contentOf_26 : decode c_S_contentOf 26 = .ok (.ireturn, 1) := by decide +kernel
theorem d_S_parentOf_0 : decode c_S_parentOf 0 = .ok (.iload_n 2, 1) := by decide +kernel
theorem d_S_parentOf_1 : decode c_S_parentOf 1 = .ok (.ifCond .ne 12, 3) := by decide +kernel
theorem d_S_parentOf_4 : decode c_S_parentOf 4 = .ok (.aload_n 0, 1) := by decide +kernel
theorem d_S_parentOf_5 : decode c_S_parentOf 5 = .ok (.getfield 34, 3) := by decide +kernel
theorem d_S_parentOf_8 : decode c_S_parentOf 8 = .ok (.iload_n 1, 1) := by decide +kernel
theorem d_S_parentOf_9 : decode c_S_parentOf 9 = .ok (.iaload, 1) := by decide +kernel
theorem d_S_parentOf_10 : decode c_S_parentOf 10 = .ok (.goto 9, 3) := by decide +kernel
theorem d_S_parentOf_13 : decode c_S_parentOf 13 = .ok (.aload_n 0, 1) := by decide +kernel
theorem d_S_parentOf_14 : decode c_S_parentOf 14 = .ok (.getfield 37, 3) := by decide +kernel
theorem d_S_parentOf_17 : decode c_S_parentOf 17 = .ok (.iload_n 1, 1) := by decide +kernel
theorem d_S_parentOf_18 : decode c_S_parentOf 18 = .ok (.iaload, 1) := by decide +kernel
theorem d_S_parentOf_19 : decode c_S_parentOf 19 = .ok (.ireturn, 1) := by decide +kernel
theorem d_S_ancestorsOf_0 : decode c_S_ancestorsOf 0 = .ok (.aload_n 0, 1) := by decide +kernel
theorem d_S_ancestorsOf_1 : decode c_S_ancestorsOf 1 = .ok (.getfield 40, 3) := by decide +kernel
theorem d_S_ancestorsOf_4 : decode c_S_ancestorsOf 4 = .ok (.iload_n 1, 1) := by decide +kernel
theorem d_S_ancestorsOf_5 : decode c_S_ancestorsOf 5 = .ok (.iaload, 1) := by decide +kernel
theorem d_S_ancestorsOf_6 : decode c_S_ancestorsOf 6 = .ok (.ireturn, 1) := by decide +kernel
theorem d_S_leadsTo_0 : decode c_S_leadsTo 0 = .ok (.aload_n 0, 1) := by decide +kernel
theorem d_S_leadsTo_1 : decode c_S_leadsTo 1 = .ok (.getfield 40, 3) := by decide +kernel
theorem d_S_leadsTo_4 : decode c_S_leadsTo 4 = .ok (.iload_n 1, 1) := by decide +kernel
theorem d_S_leadsTo_5 : decode c_S_leadsTo 5 = .ok (.iaload, 1) := by decide +kernel
theorem d_S_leadsTo_6 : decode c_S_leadsTo 6 = .ok (.iconst 1, 1) := by decide +kernel
theorem d_S_leadsTo_7 : decode c_S_leadsTo 7 = .ok (.iload_n 2, 1) := by decide +kernel
theorem d_S_leadsTo_8 : decode c_S_leadsTo 8 = .ok (.ishl, 1) := by decide +kernel
theorem d_S_leadsTo_9 : decode c_S_leadsTo 9 = .ok (.iand, 1) := by decide +kernel
theorem d_S_leadsTo_10 : decode c_S_leadsTo 10 = .ok (.ifCond .eq 7, 3) := by decide +kernel
theorem d_S_leadsTo_13 : decode c_S_leadsTo 13 = .ok (.iconst 1, 1) := by decide +kernel
theorem d_S_leadsTo_14 : decode c_S_leadsTo 14 = .ok (.goto 4, 3) := by decide +kernel
theorem d_S_leadsTo_17 : decode c_S_leadsTo 17 = .ok (.iconst 0, 1) := by decide +kernel
theorem d_S_leadsTo_18 : decode c_S_leadsTo 18 = .ok (.ireturn, 1) := by decide +kernel
theorem d_S_meetingOf_0 : decode c_S_meetingOf 0 = .ok (.aload_n 0, 1) := by decide +kernel
theorem d_S_meetingOf_1 : decode c_S_meetingOf 1 = .ok (.getfield 40, 3) := by decide +kernel
theorem d_S_meetingOf_4 : decode c_S_meetingOf 4 = .ok (.iload_n 1, 1) := by decide +kernel
theorem d_S_meetingOf_5 : decode c_S_meetingOf 5 = .ok (.iaload, 1) := by decide +kernel
theorem d_S_meetingOf_6 : decode c_S_meetingOf 6 = .ok (.aload_n 0, 1) := by decide +kernel
theorem d_S_meetingOf_7 : decode c_S_meetingOf 7 = .ok (.getfield 40, 3) := by decide +kernel
theorem d_S_meetingOf_10 : decode c_S_meetingOf 10 = .ok (.iload_n 2, 1) := by decide +kernel
theorem d_S_meetingOf_11 : decode c_S_meetingOf 11 = .ok (.iaload, 1) := by decide +kernel
theorem d_S_meetingOf_12 : decode c_S_meetingOf 12 = .ok (.iand, 1) := by decide +kernel
theorem d_S_meetingOf_13 : decode c_S_meetingOf 13 = .ok (.istore_n 3, 1) := by decide +kernel
theorem d_S_meetingOf_14 : decode c_S_meetingOf 14 = .ok (.bipush 30, 2) := by decide +kernel
theorem d_S_meetingOf_16 : decode c_S_meetingOf 16 = .ok (.istore 4, 2) := by decide +kernel
theorem d_S_meetingOf_18 : decode c_S_meetingOf 18 = .ok (.iload 4, 2) := by decide +kernel
theorem d_S_meetingOf_20 : decode c_S_meetingOf 20 = .ok (.ifCond .le 18, 3) := by decide +kernel
theorem d_S_meetingOf_23 : decode c_S_meetingOf 23 = .ok (.iload_n 3, 1) := by decide +kernel
theorem d_S_meetingOf_24 : decode c_S_meetingOf 24 = .ok (.iconst 1, 1) := by decide +kernel
theorem d_S_meetingOf_25 : decode c_S_meetingOf 25 = .ok (.iload 4, 2) := by decide +kernel
theorem d_S_meetingOf_27 : decode c_S_meetingOf 27 = .ok (.ishl, 1) := by decide +kernel
theorem d_S_meetingOf_28 : decode c_S_meetingOf 28 = .ok (.iand, 1) := by decide +kernel
theorem d_S_meetingOf_29 : decode c_S_meetingOf 29 = .ok (.ifCond .ne 9, 3) := by decide +kernel
theorem d_S_meetingOf_32 : decode c_S_meetingOf 32 = .ok (.iinc 4 (-1), 3) := by decide +kernel
theorem d_S_meetingOf_35 : decode c_S_meetingOf 35 = .ok (.goto (-17), 3) := by decide +kernel
theorem d_S_meetingOf_38 : decode c_S_meetingOf 38 = .ok (.iload 4, 2) := by decide +kernel
theorem d_S_meetingOf_40 : decode c_S_meetingOf 40 = .ok (.ireturn, 1) := by decide +kernel
theorem d_S_make_0 : decode c_S_make 0 = .ok (.aload_n 0, 1) := by decide +kernel
theorem d_S_make_1 : decode c_S_make 1 = .ok (.dup, 1) := by decide +kernel
theorem d_S_make_2 : decode c_S_make 2 = .ok (.getfield 46, 3) := by decide +kernel
theorem d_S_make_5 : decode c_S_make 5 = .ok (.iconst 1, 1) := by decide +kernel
theorem d_S_make_6 : decode c_S_make 6 = .ok (.iadd, 1) := by decide +kernel
theorem d_S_make_7 : decode c_S_make 7 = .ok (.putfield 46, 3) := by decide +kernel
theorem d_S_make_10 : decode c_S_make 10 = .ok (.aload_n 0, 1) := by decide +kernel
theorem d_S_make_11 : decode c_S_make 11 = .ok (.getfield 30, 3) := by decide +kernel
theorem d_S_make_14 : decode c_S_make 14 = .ok (.aload_n 0, 1) := by decide +kernel
theorem d_S_make_15 : decode c_S_make 15 = .ok (.getfield 46, 3) := by decide +kernel
theorem d_S_make_18 : decode c_S_make 18 = .ok (.aload_n 0, 1) := by decide +kernel
theorem d_S_make_19 : decode c_S_make 19 = .ok (.aload_n 1, 1) := by decide +kernel
theorem d_S_make_20 : decode c_S_make 20 = .ok (.invokevirtual 71, 3) := by decide +kernel
theorem d_S_make_23 : decode c_S_make 23 = .ok (.iastore, 1) := by decide +kernel
theorem d_S_make_24 : decode c_S_make 24 = .ok (.aload_n 0, 1) := by decide +kernel
theorem d_S_make_25 : decode c_S_make 25 = .ok (.getfield 34, 3) := by decide +kernel
theorem d_S_make_28 : decode c_S_make 28 = .ok (.aload_n 0, 1) := by decide +kernel
theorem d_S_make_29 : decode c_S_make 29 = .ok (.getfield 46, 3) := by decide +kernel
theorem d_S_make_32 : decode c_S_make 32 = .ok (.iload_n 2, 1) := by decide +kernel
theorem d_S_make_33 : decode c_S_make 33 = .ok (.iastore, 1) := by decide +kernel
theorem d_S_make_34 : decode c_S_make 34 = .ok (.aload_n 0, 1) := by decide +kernel
theorem d_S_make_35 : decode c_S_make 35 = .ok (.getfield 37, 3) := by decide +kernel
theorem d_S_make_38 : decode c_S_make 38 = .ok (.aload_n 0, 1) := by decide +kernel
theorem d_S_make_39 : decode c_S_make 39 = .ok (.getfield 46, 3) := by decide +kernel
theorem d_S_make_42 : decode c_S_make 42 = .ok (.iload_n 3, 1) := by decide +kernel
theorem d_S_make_43 : decode c_S_make 43 = .ok (.iastore, 1) := by decide +kernel
theorem d_S_make_44 : decode c_S_make 44 = .ok (.aload_n 0, 1) := by decide +kernel
theorem d_S_make_45 : decode c_S_make 45 = .ok (.getfield 40, 3) := by decide +kernel
theorem d_S_make_48 : decode c_S_make 48 = .ok (.aload_n 0, 1) := by decide +kernel
theorem d_S_make_49 : decode c_S_make 49 = .ok (.getfield 46, 3) := by decide +kernel
theorem d_S_make_52 : decode c_S_make 52 = .ok (.iconst 1, 1) := by decide +kernel
theorem d_S_make_53 : decode c_S_make 53 = .ok (.aload_n 0, 1) := by decide +kernel
theorem d_S_make_54 : decode c_S_make 54 = .ok (.getfield 46, 3) := by decide +kernel
theorem d_S_make_57 : decode c_S_make 57 = .ok (.ishl, 1) := by decide +kernel
theorem d_S_make_58 : decode c_S_make 58 = .ok (.aload_n 0, 1) := by decide +kernel
theorem d_S_make_59 : decode c_S_make 59 = .ok (.getfield 40, 3) := by decide +kernel
theorem d_S_make_62 : decode c_S_make 62 = .ok (.iload_n 2, 1) := by decide +kernel
theorem d_S_make_63 : decode c_S_make 63 = .ok (.iaload, 1) := by decide +kernel
theorem d_S_make_64 : decode c_S_make 64 = .ok (.ior, 1) := by decide +kernel
theorem d_S_make_65 : decode c_S_make 65 = .ok (.aload_n 0, 1) := by decide +kernel
theorem d_S_make_66 : decode c_S_make 66 = .ok (.getfield 40, 3) := by decide +kernel
theorem d_S_make_69 : decode c_S_make 69 = .ok (.iload_n 3, 1) := by decide +kernel
theorem d_S_make_70 : decode c_S_make 70 = .ok (.iaload, 1) := by decide +kernel
theorem d_S_make_71 : decode c_S_make 71 = .ok (.ior, 1) := by decide +kernel
theorem d_S_make_72 : decode c_S_make 72 = .ok (.iastore, 1) := by decide +kernel
theorem d_S_make_73 : decode c_S_make 73 = .ok (.aload_n 0, 1) := by decide +kernel
theorem d_S_make_74 : decode c_S_make 74 = .ok (.dup, 1) := by decide +kernel
theorem d_S_make_75 : decode c_S_make 75 = .ok (.getfield 50, 3) := by decide +kernel
theorem d_S_make_78 : decode c_S_make 78 = .ok (.iconst 1, 1) := by decide +kernel
theorem d_S_make_79 : decode c_S_make 79 = .ok (.aload_n 0, 1) := by decide +kernel
theorem d_S_make_80 : decode c_S_make 80 = .ok (.getfield 46, 3) := by decide +kernel
theorem d_S_make_83 : decode c_S_make 83 = .ok (.ishl, 1) := by decide +kernel
theorem d_S_make_84 : decode c_S_make 84 = .ok (.ior, 1) := by decide +kernel
theorem d_S_make_85 : decode c_S_make 85 = .ok (.putfield 50, 3) := by decide +kernel
theorem d_S_make_88 : decode c_S_make 88 = .ok (.aload_n 0, 1) := by decide +kernel
theorem d_S_make_89 : decode c_S_make 89 = .ok (.getfield 46, 3) := by decide +kernel
theorem d_S_make_92 : decode c_S_make 92 = .ok (.ireturn, 1) := by decide +kernel
theorem d_S_keepRoot_0 : decode c_S_keepRoot 0 = .ok (.iconst 0, 1) := by decide +kernel
theorem d_S_keepRoot_1 : decode c_S_keepRoot 1 = .ok (.istore_n 2, 1) := by decide +kernel
theorem d_S_keepRoot_2 : decode c_S_keepRoot 2 = .ok (.iload_n 2, 1) := by decide +kernel
theorem d_S_keepRoot_3 : decode c_S_keepRoot 3 = .ok (.iconst 4, 1) := by decide +kernel
theorem d_S_keepRoot_4 : decode c_S_keepRoot 4 = .ok (.if_icmp .ge 23, 3) := by decide +kernel
theorem d_S_keepRoot_7 : decode c_S_keepRoot 7 = .ok (.aload_n 0, 1) := by decide +kernel
theorem d_S_keepRoot_8 : decode c_S_keepRoot 8 = .ok (.getfield 43, 3) := by decide +kernel
theorem d_S_keepRoot_11 : decode c_S_keepRoot 11 = .ok (.iload_n 2, 1) := by decide +kernel
theorem d_S_keepRoot_12 : decode c_S_keepRoot 12 = .ok (.aload_n 0, 1) := by decide +kernel
theorem d_S_keepRoot_13 : decode c_S_keepRoot 13 = .ok (.aload_n 1, 1) := by decide +kernel
theorem d_S_keepRoot_14 : decode c_S_keepRoot 14 = .ok (.iload_n 2, 1) := by decide +kernel
theorem d_S_keepRoot_15 : decode c_S_keepRoot 15 = .ok (.iconst 4, 1) := by decide +kernel
theorem d_S_keepRoot_16 : decode c_S_keepRoot 16 = .ok (.imul, 1) := by decide +kernel
theorem d_S_keepRoot_17 : decode c_S_keepRoot 17 = .ok (.invokevirtual 75, 3) := by decide +kernel
theorem d_S_keepRoot_20 : decode c_S_keepRoot 20 = .ok (.iastore, 1) := by decide +kernel
theorem d_S_keepRoot_21 : decode c_S_keepRoot 21 = .ok (.iinc 2 1, 3) := by decide +kernel
theorem d_S_keepRoot_24 : decode c_S_keepRoot 24 = .ok (.goto (-22), 3) := by decide +kernel
theorem d_S_keepRoot_27 : decode c_S_keepRoot 27 = .ok (.aload_n 0, 1) := by decide +kernel
theorem d_S_keepRoot_28 : decode c_S_keepRoot 28 = .ok (.getfield 27, 3) := by decide +kernel
theorem d_S_keepRoot_31 : decode c_S_keepRoot 31 = .ok (.aload_n 0, 1) := by decide +kernel
theorem d_S_keepRoot_32 : decode c_S_keepRoot 32 = .ok (.getfield 43, 3) := by decide +kernel
theorem d_S_keepRoot_35 : decode c_S_keepRoot 35 = .ok (.iconst 0, 1) := by decide +kernel
theorem d_S_keepRoot_36 : decode c_S_keepRoot 36 = .ok (.invokevirtual 79, 3) := by decide +kernel
theorem d_S_keepRoot_39 : decode c_S_keepRoot 39 = .ok (.ireturn, 1) := by decide +kernel
theorem d_S_keepFolder_0 : decode c_S_keepFolder 0 = .ok (.iconst 0, 1) := by decide +kernel
theorem d_S_keepFolder_1 : decode c_S_keepFolder 1 = .ok (.istore_n 3, 1) := by decide +kernel
theorem d_S_keepFolder_2 : decode c_S_keepFolder 2 = .ok (.iload_n 2, 1) := by decide +kernel
theorem d_S_keepFolder_3 : decode c_S_keepFolder 3 = .ok (.istore 4, 2) := by decide +kernel
theorem d_S_keepFolder_5 : decode c_S_keepFolder 5 = .ok (.iload 4, 2) := by decide +kernel
theorem d_S_keepFolder_7 : decode c_S_keepFolder 7 = .ok (.iload_n 2, 1) := by decide +kernel
theorem d_S_keepFolder_8 : decode c_S_keepFolder 8 = .ok (.iconst 4, 1) := by decide +kernel
theorem d_S_keepFolder_9 : decode c_S_keepFolder 9 = .ok (.iadd, 1) := by decide +kernel
theorem d_S_keepFolder_10 : decode c_S_keepFolder 10 = .ok (.if_icmp .ge 27, 3) := by decide +kernel
theorem d_S_keepFolder_13 : decode c_S_keepFolder 13 = .ok (.iload_n 3, 1) := by decide +kernel
theorem d_S_keepFolder_14 : decode c_S_keepFolder 14 = .ok (.aload_n 1, 1) := by decide +kernel
theorem d_S_keepFolder_15 : decode c_S_keepFolder 15 = .ok (.iload 4, 2) := by decide +kernel
theorem d_S_keepFolder_17 : decode c_S_keepFolder 17 = .ok (.iaload, 1) := by decide +kernel
theorem d_S_keepFolder_18 : decode c_S_keepFolder 18 = .ok (.ior, 1) := by decide +kernel
theorem d_S_keepFolder_19 : decode c_S_keepFolder 19 = .ok (.istore_n 3, 1) := by decide +kernel
theorem d_S_keepFolder_20 : decode c_S_keepFolder 20 = .ok (.aload_n 0, 1) := by decide +kernel
theorem d_S_keepFolder_21 : decode c_S_keepFolder 21 = .ok (.getfield 12, 3) := by decide +kernel
theorem d_S_keepFolder_24 : decode c_S_keepFolder 24 = .ok (.aload_n 1, 1) := by decide +kernel
theorem d_S_keepFolder_25 : decode c_S_keepFolder 25 = .ok (.iload 4, 2) := by decide +kernel
theorem d_S_keepFolder_27 : decode c_S_keepFolder 27 = .ok (.iaload, 1) := by decide +kernel
theorem d_S_keepFolder_28 : decode c_S_keepFolder 28 = .ok (.invokevirtual 82, 3) := by decide +kernel
theorem d_S_keepFolder_31 : decode c_S_keepFolder 31 = .ok (.iinc 4 1, 3) := by decide +kernel
theorem d_S_keepFolder_34 : decode c_S_keepFolder 34 = .ok (.goto (-29), 3) := by decide +kernel
theorem d_S_keepFolder_37 : decode c_S_keepFolder 37 = .ok (.iload_n 3, 1) := by decide +kernel
theorem d_S_keepFolder_38 : decode c_S_keepFolder 38 = .ok (.ifCond .ne 7, 3) := by decide +kernel
theorem d_S_keepFolder_41 : decode c_S_keepFolder 41 = .ok (.iconst 0, 1) := by decide +kernel
theorem d_S_keepFolder_42 : decode c_S_keepFolder 42 = .ok (.goto 12, 3) := by decide +kernel
theorem d_S_keepFolder_45 : decode c_S_keepFolder 45 = .ok (.aload_n 0, 1) := by decide +kernel
theorem d_S_keepFolder_46 : decode c_S_keepFolder 46 = .ok (.getfield 23, 3) := by decide +kernel
theorem d_S_keepFolder_49 : decode c_S_keepFolder 49 = .ok (.aload_n 1, 1) := by decide +kernel
theorem d_S_keepFolder_50 : decode c_S_keepFolder 50 = .ok (.iload_n 2, 1) := by decide +kernel
theorem d_S_keepFolder_51 : decode c_S_keepFolder 51 = .ok (.invokevirtual 79, 3) := by decide +kernel
theorem d_S_keepFolder_54 : decode c_S_keepFolder 54 = .ok (.ireturn, 1) := by decide +kernel
theorem d_S_keepOnly_0 : decode c_S_keepOnly 0 = .ok (.aload_n 0, 1) := by decide +kernel
theorem d_S_keepOnly_1 : decode c_S_keepOnly 1 = .ok (.getfield 12, 3) := by decide +kernel
theorem d_S_keepOnly_4 : decode c_S_keepOnly 4 = .ok (.invokevirtual 84, 3) := by decide +kernel
theorem d_S_keepOnly_7 : decode c_S_keepOnly 7 = .ok (.aload_n 0, 1) := by decide +kernel
theorem d_S_keepOnly_8 : decode c_S_keepOnly 8 = .ok (.getfield 23, 3) := by decide +kernel
theorem d_S_keepOnly_11 : decode c_S_keepOnly 11 = .ok (.invokevirtual 87, 3) := by decide +kernel
theorem d_S_keepOnly_14 : decode c_S_keepOnly 14 = .ok (.aload_n 0, 1) := by decide +kernel
theorem d_S_keepOnly_15 : decode c_S_keepOnly 15 = .ok (.getfield 27, 3) := by decide +kernel
theorem d_S_keepOnly_18 : decode c_S_keepOnly 18 = .ok (.invokevirtual 87, 3) := by decide +kernel
theorem d_S_keepOnly_21 : decode c_S_keepOnly 21 = .ok (.aload_n 0, 1) := by decide +kernel
theorem d_S_keepOnly_22 : decode c_S_keepOnly 22 = .ok (.iload_n 1, 1) := by decide +kernel
theorem d_S_keepOnly_23 : decode c_S_keepOnly 23 = .ok (.putfield 50, 3) := by decide +kernel
theorem d_S_keepOnly_26 : decode c_S_keepOnly 26 = .ok (.iconst 1, 1) := by decide +kernel
theorem d_S_keepOnly_27 : decode c_S_keepOnly 27 = .ok (.istore_n 2, 1) := by decide +kernel
theorem d_S_keepOnly_28 : decode c_S_keepOnly 28 = .ok (.iload_n 2, 1) := by decide +kernel
theorem d_S_keepOnly_29 : decode c_S_keepOnly 29 = .ok (.aload_n 0, 1) := by decide +kernel
theorem d_S_keepOnly_30 : decode c_S_keepOnly 30 = .ok (.getfield 46, 3) := by decide +kernel
theorem d_S_keepOnly_33 : decode c_S_keepOnly 33 = .ok (.if_icmp .gt 27, 3) := by decide +kernel
theorem d_S_keepOnly_36 : decode c_S_keepOnly 36 = .ok (.aload_n 0, 1) := by decide +kernel
theorem d_S_keepOnly_37 : decode c_S_keepOnly 37 = .ok (.iload_n 2, 1) := by decide +kernel
theorem d_S_keepOnly_38 : decode c_S_keepOnly 38 = .ok (.invokevirtual 88, 3) := by decide +kernel
theorem d_S_keepOnly_41 : decode c_S_keepOnly 41 = .ok (.ifCond .eq 13, 3) := by decide +kernel
theorem d_S_keepOnly_44 : decode c_S_keepOnly 44 = .ok (.aload_n 0, 1) := by decide +kernel
theorem d_S_keepOnly_45 : decode c_S_keepOnly 45 = .ok (.aload_n 0, 1) := by decide +kernel
theorem d_S_keepOnly_46 : decode c_S_keepOnly 46 = .ok (.getfield 30, 3) := by decide +kernel
theorem d_S_keepOnly_49 : decode c_S_keepOnly 49 = .ok (.iload_n 2, 1) := by decide +kernel
theorem d_S_keepOnly_50 : decode c_S_keepOnly 50 = .ok (.iaload, 1) := by decide +kernel
theorem d_S_keepOnly_51 : decode c_S_keepOnly 51 = .ok (.invokevirtual 92, 3) := by decide +kernel
theorem d_S_keepOnly_54 : decode c_S_keepOnly 54 = .ok (.iinc 2 1, 3) := by decide +kernel
theorem d_S_keepOnly_57 : decode c_S_keepOnly 57 = .ok (.goto (-29), 3) := by decide +kernel
theorem d_S_keepOnly_60 : decode c_S_keepOnly 60 = .ok (.return_, 1) := by decide +kernel
theorem d_S_keepAgain_0 : decode c_S_keepAgain 0 = .ok (.aload_n 0, 1) := by decide +kernel
theorem d_S_keepAgain_1 : decode c_S_keepAgain 1 = .ok (.getfield 27, 3) := by decide +kernel
theorem d_S_keepAgain_4 : decode c_S_keepAgain 4 = .ok (.iload_n 1, 1) := by decide +kernel
theorem d_S_keepAgain_5 : decode c_S_keepAgain 5 = .ok (.invokevirtual 95, 3) := by decide +kernel
theorem d_S_keepAgain_8 : decode c_S_keepAgain 8 = .ok (.iconst 0, 1) := by decide +kernel
theorem d_S_keepAgain_9 : decode c_S_keepAgain 9 = .ok (.istore_n 2, 1) := by decide +kernel
theorem d_S_keepAgain_10 : decode c_S_keepAgain 10 = .ok (.iload_n 2, 1) := by decide +kernel
theorem d_S_keepAgain_11 : decode c_S_keepAgain 11 = .ok (.iconst 4, 1) := by decide +kernel
theorem d_S_keepAgain_12 : decode c_S_keepAgain 12 = .ok (.if_icmp .ge 59, 3) := by decide +kernel
theorem d_S_keepAgain_15 : decode c_S_keepAgain 15 = .ok (.aload_n 0, 1) := by decide +kernel
theorem d_S_keepAgain_16 : decode c_S_keepAgain 16 = .ok (.getfield 27, 3) := by decide +kernel
theorem d_S_keepAgain_19 : decode c_S_keepAgain 19 = .ok (.iload_n 1, 1) := by decide +kernel
theorem d_S_keepAgain_20 : decode c_S_keepAgain 20 = .ok (.iload_n 2, 1) := by decide +kernel
theorem d_S_keepAgain_21 : decode c_S_keepAgain 21 = .ok (.invokevirtual 67, 3) := by decide +kernel
theorem d_S_keepAgain_24 : decode c_S_keepAgain 24 = .ok (.istore_n 3, 1) := by decide +kernel
theorem d_S_keepAgain_25 : decode c_S_keepAgain 25 = .ok (.aload_n 0, 1) := by decide +kernel
theorem d_S_keepAgain_26 : decode c_S_keepAgain 26 = .ok (.getfield 23, 3) := by decide +kernel
theorem d_S_keepAgain_29 : decode c_S_keepAgain 29 = .ok (.iload_n 3, 1) := by decide +kernel
theorem d_S_keepAgain_30 : decode c_S_keepAgain 30 = .ok (.invokevirtual 95, 3) := by decide +kernel
theorem d_S_keepAgain_33 : decode c_S_keepAgain 33 = .ok (.iconst 0, 1) := by decide +kernel
theorem d_S_keepAgain_34 : decode c_S_keepAgain 34 = .ok (.istore 4, 2) := by decide +kernel
theorem d_S_keepAgain_36 : decode c_S_keepAgain 36 = .ok (.iload 4, 2) := by decide +kernel
theorem d_S_keepAgain_38 : decode c_S_keepAgain 38 = .ok (.iconst 4, 1) := by decide +kernel
theorem d_S_keepAgain_39 : decode c_S_keepAgain 39 = .ok (.if_icmp .ge 26, 3) := by decide +kernel
theorem d_S_keepAgain_42 : decode c_S_keepAgain 42 = .ok (.aload_n 0, 1) := by decide +kernel
theorem d_S_keepAgain_43 : decode c_S_keepAgain 43 = .ok (.getfield 12, 3) := by decide +kernel
theorem d_S_keepAgain_46 : decode c_S_keepAgain 46 = .ok (.aload_n 0, 1) := by decide +kernel
theorem d_S_keepAgain_47 : decode c_S_keepAgain 47 = .ok (.getfield 23, 3) := by decide +kernel
theorem d_S_keepAgain_50 : decode c_S_keepAgain 50 = .ok (.iload_n 3, 1) := by decide +kernel
theorem d_S_keepAgain_51 : decode c_S_keepAgain 51 = .ok (.iload 4, 2) := by decide +kernel
theorem d_S_keepAgain_53 : decode c_S_keepAgain 53 = .ok (.invokevirtual 67, 3) := by decide +kernel
theorem d_S_keepAgain_56 : decode c_S_keepAgain 56 = .ok (.invokevirtual 82, 3) := by decide +kernel
theorem d_S_keepAgain_59 : decode c_S_keepAgain 59 = .ok (.iinc 4 1, 3) := by decide +kernel
theorem d_S_keepAgain_62 : decode c_S_keepAgain 62 = .ok (.goto (-26), 3) := by decide +kernel
theorem d_S_keepAgain_65 : decode c_S_keepAgain 65 = .ok (.iinc 2 1, 3) := by decide +kernel
theorem d_S_keepAgain_68 : decode c_S_keepAgain 68 = .ok (.goto (-58), 3) := by decide +kernel
theorem d_S_keepAgain_71 : decode c_S_keepAgain 71 = .ok (.return_, 1) := by decide +kernel
theorem d_D_init_0 : decode c_D_init 0 = .ok (.aload_n 0, 1) := by decide +kernel
theorem d_D_init_1 : decode c_D_init 1 = .ok (.invokespecial 1, 3) := by decide +kernel
theorem d_D_init_4 : decode c_D_init 4 = .ok (.aload_n 0, 1) := by decide +kernel
theorem d_D_init_5 : decode c_D_init 5 = .ok (.new 7, 3) := by decide +kernel
theorem d_D_init_8 : decode c_D_init 8 = .ok (.dup, 1) := by decide +kernel
theorem d_D_init_9 : decode c_D_init 9 = .ok (.invokespecial 9, 3) := by decide +kernel
theorem d_D_init_12 : decode c_D_init 12 = .ok (.putfield 10, 3) := by decide +kernel
theorem d_D_init_15 : decode c_D_init 15 = .ok (.aload_n 0, 1) := by decide +kernel
theorem d_D_init_16 : decode c_D_init 16 = .ok (.bipush 16, 2) := by decide +kernel
theorem d_D_init_18 : decode c_D_init 18 = .ok (.newarray .int, 2) := by decide +kernel
theorem d_D_init_20 : decode c_D_init 20 = .ok (.putfield 16, 3) := by decide +kernel
theorem d_D_init_23 : decode c_D_init 23 = .ok (.aload_n 0, 1) := by decide +kernel
theorem d_D_init_24 : decode c_D_init 24 = .ok (.bipush 16, 2) := by decide +kernel
theorem d_D_init_26 : decode c_D_init 26 = .ok (.newarray .int, 2) := by decide +kernel
theorem d_D_init_28 : decode c_D_init 28 = .ok (.putfield 20, 3) := by decide +kernel
theorem d_D_init_31 : decode c_D_init 31 = .ok (.aload_n 0, 1) := by decide +kernel
theorem d_D_init_32 : decode c_D_init 32 = .ok (.bipush 16, 2) := by decide +kernel
theorem d_D_init_34 : decode c_D_init 34 = .ok (.newarray .int, 2) := by decide +kernel
theorem d_D_init_36 : decode c_D_init 36 = .ok (.putfield 23, 3) := by decide +kernel
theorem d_D_init_39 : decode c_D_init 39 = .ok (.aload_n 0, 1) := by decide +kernel
theorem d_D_init_40 : decode c_D_init 40 = .ok (.bipush 6, 2) := by decide +kernel
theorem d_D_init_42 : decode c_D_init 42 = .ok (.newarray .int, 2) := by decide +kernel
theorem d_D_init_44 : decode c_D_init 44 = .ok (.putfield 26, 3) := by decide +kernel
theorem d_D_init_47 : decode c_D_init 47 = .ok (.return_, 1) := by decide +kernel
theorem d_D_write_0 : decode c_D_write 0 = .ok (.iload_n 1, 1) := by decide +kernel
theorem d_D_write_1 : decode c_D_write 1 = .ok (.invokestatic 29, 3) := by decide +kernel
theorem d_D_write_4 : decode c_D_write 4 = .ok (.ifCond .eq 14, 3) := by decide +kernel
theorem d_D_write_7 : decode c_D_write 7 = .ok (.iload_n 2, 1) := by decide +kernel
theorem d_D_write_8 : decode c_D_write 8 = .ok (.ifCond .lt 10, 3) := by decide +kernel
theorem d_D_write_11 : decode c_D_write 11 = .ok (.iload_n 2, 1) := by decide +kernel
theorem d_D_write_12 : decode c_D_write 12 = .ok (.sipush 9999, 3) := by decide +kernel
theorem d_D_write_15 : decode c_D_write 15 = .ok (.if_icmp .le 5, 3) := by decide +kernel
theorem d_D_write_18 : decode c_D_write 18 = .ok (.iconst (-1), 1) := by decide +kernel
theorem d_D_write_19 : decode c_D_write 19 = .ok (.ireturn, 1) := by decide +kernel
theorem d_D_write_20 : decode c_D_write 20 = .ok (.aload_n 0, 1) := by decide +kernel
theorem d_D_write_21 : decode c_D_write 21 = .ok (.getfield 16, 3) := by decide +kernel
theorem d_D_write_24 : decode c_D_write 24 = .ok (.iload_n 1, 1) := by decide +kernel
theorem d_D_write_25 : decode c_D_write 25 = .ok (.iload_n 2, 1) := by decide +kernel
theorem d_D_write_26 : decode c_D_write 26 = .ok (.iastore, 1) := by decide +kernel
theorem d_D_write_27 : decode c_D_write 27 = .ok (.iconst 0, 1) := by decide +kernel
theorem d_D_write_28 : decode c_D_write 28 = .ok (.ireturn, 1) := by decide +kernel
theorem d_D_stage_0 : decode c_D_stage 0 = .ok (.iload_n 1, 1) := by decide +kernel
theorem d_D_stage_1 : decode c_D_stage 1 = .ok (.invokestatic 29, 3) := by decide +kernel
theorem d_D_stage_4 : decode c_D_stage 4 = .ok (.ifCond .ne 5, 3) := by decide +kernel
theorem d_D_stage_7 : decode c_D_stage 7 = .ok (.iconst (-1), 1) := by decide +kernel
theorem d_D_stage_8 : decode c_D_stage 8 = .ok (.ireturn, 1) := by decide +kernel
theorem d_D_stage_9 : decode c_D_stage 9 = .ok (.aload_n 0, 1) := by decide +kernel
theorem d_D_stage_10 : decode c_D_stage 10 = .ok (.getfield 20, 3) := by decide +kernel
theorem d_D_stage_13 : decode c_D_stage 13 = .ok (.iload_n 1, 1) := by decide +kernel
theorem d_D_stage_14 : decode c_D_stage 14 = .ok (.aload_n 0, 1) := by decide +kernel
theorem d_D_stage_15 : decode c_D_stage 15 = .ok (.getfield 16, 3) := by decide +kernel
theorem d_D_stage_18 : decode c_D_stage 18 = .ok (.iload_n 1, 1) := by decide +kernel
theorem d_D_stage_19 : decode c_D_stage 19 = .ok (.iaload, 1) := by decide +kernel
theorem d_D_stage_20 : decode c_D_stage 20 = .ok (.iastore, 1) := by decide +kernel
theorem d_D_stage_21 : decode c_D_stage 21 = .ok (.aload_n 0, 1) := by decide +kernel
theorem d_D_stage_22 : decode c_D_stage 22 = .ok (.getfield 10, 3) := by decide +kernel
theorem d_D_stage_25 : decode c_D_stage 25 = .ok (.getfield 33, 3) := by decide +kernel
theorem d_D_stage_28 : decode c_D_stage 28 = .ok (.aload_n 0, 1) := by decide +kernel
theorem d_D_stage_29 : decode c_D_stage 29 = .ok (.getfield 20, 3) := by decide +kernel
theorem d_D_stage_32 : decode c_D_stage 32 = .ok (.iload_n 1, 1) := by decide +kernel
theorem d_D_stage_33 : decode c_D_stage 33 = .ok (.iaload, 1) := by decide +kernel
theorem d_D_stage_34 : decode c_D_stage 34 = .ok (.invokevirtual 37, 3) := by decide +kernel
theorem d_D_stage_37 : decode c_D_stage 37 = .ok (.aload_n 0, 1) := by decide +kernel
theorem d_D_stage_38 : decode c_D_stage 38 = .ok (.dup, 1) := by decide +kernel
theorem d_D_stage_39 : decode c_D_stage 39 = .ok (.getfield 43, 3) := by decide +kernel
theorem d_D_stage_42 : decode c_D_stage 42 = .ok (.iconst 1, 1) := by decide +kernel
theorem d_D_stage_43 : decode c_D_stage 43 = .ok (.iload_n 1, 1) := by decide +kernel
theorem d_D_stage_44 : decode c_D_stage 44 = .ok (.ishl, 1) := by decide +kernel
theorem d_D_stage_45 : decode c_D_stage 45 = .ok (.iconst (-1), 1) := by decide +kernel
theorem d_D_stage_46 : decode c_D_stage 46 = .ok (.ixor, 1) := by decide +kernel
theorem d_D_stage_47 : decode c_D_stage 47 = .ok (.iand, 1) := by decide +kernel
theorem d_D_stage_48 : decode c_D_stage 48 = .ok (.putfield 43, 3) := by decide +kernel
theorem d_D_stage_51 : decode c_D_stage 51 = .ok (.iconst 0, 1) := by decide +kernel
theorem d_D_stage_52 : decode c_D_stage 52 = .ok (.ireturn, 1) := by decide +kernel
theorem d_D_commit_0 : decode c_D_commit 0 = .ok (.aload_n 0, 1) := by decide +kernel
theorem d_D_commit_1 : decode c_D_commit 1 = .ok (.getfield 43, 3) := by decide +kernel
theorem d_D_commit_4 : decode c_D_commit 4 = .ok (.ifCond .eq 6, 3) := by decide +kernel
theorem d_D_commit_7 : decode c_D_commit 7 = .ok (.bipush (-5), 2) := by decide +kernel
theorem d_D_commit_9 : decode c_D_commit 9 = .ok (.ireturn, 1) := by decide +kernel
theorem d_D_commit_10 : decode c_D_commit 10 = .ok (.aload_n 0, 1) := by decide +kernel
theorem d_D_commit_11 : decode c_D_commit 11 = .ok (.getfield 47, 3) := by decide +kernel
theorem d_D_commit_14 : decode c_D_commit 14 = .ok (.ifCond .ne 17, 3) := by decide +kernel
theorem d_D_commit_17 : decode c_D_commit 17 = .ok (.aload_n 0, 1) := by decide +kernel
theorem d_D_commit_18 : decode c_D_commit 18 = .ok (.aload_n 0, 1) := by decide +kernel
theorem d_D_commit_19 : decode c_D_commit 19 = .ok (.getfield 20, 3) := by decide +kernel
theorem d_D_commit_22 : decode c_D_commit 22 = .ok (.invokevirtual 50, 3) := by decide +kernel
theorem d_D_commit_25 : decode c_D_commit 25 = .ok (.ifCond .eq 6, 3) := by decide +kernel
theorem d_D_commit_28 : decode c_D_commit 28 = .ok (.bipush (-3), 2) := by decide +kernel
theorem d_D_commit_30 : decode c_D_commit 30 = .ok (.ireturn, 1) := by decide +kernel
theorem d_D_commit_31 : decode c_D_commit 31 = .ok (.aload_n 0, 1) := by decide +kernel
theorem d_D_commit_32 : decode c_D_commit 32 = .ok (.getfield 10, 3) := by decide +kernel
theorem d_D_commit_35 : decode c_D_commit 35 = .ok (.invokevirtual 54, 3) := by decide +kernel
theorem d_D_commit_38 : decode c_D_commit 38 = .ok (.ifCond .eq 6, 3) := by decide +kernel
theorem d_D_commit_41 : decode c_D_commit 41 = .ok (.bipush (-2), 2) := by decide +kernel
theorem d_D_commit_43 : decode c_D_commit 43 = .ok (.ireturn, 1) := by decide +kernel
theorem d_D_commit_44 : decode c_D_commit 44 = .ok (.aload_n 0, 1) := by decide +kernel
theorem d_D_commit_45 : decode c_D_commit 45 = .ok (.getfield 26, 3) := by decide +kernel
theorem d_D_commit_48 : decode c_D_commit 48 = .ok (.aload_n 0, 1) := by decide +kernel
theorem d_D_commit_49 : decode c_D_commit 49 = .ok (.getfield 58, 3) := by decide +kernel
theorem d_D_commit_52 : decode c_D_commit 52 = .ok (.aload_n 0, 1) := by decide +kernel
theorem d_D_commit_53 : decode c_D_commit 53 = .ok (.getfield 10, 3) := by decide +kernel
theorem d_D_commit_56 : decode c_D_commit 56 = .ok (.aload_n 0, 1) := by decide +kernel
theorem d_D_commit_57 : decode c_D_commit 57 = .ok (.getfield 20, 3) := by decide +kernel
theorem d_D_commit_60 : decode c_D_commit 60 = .ok (.aload_n 0, 1) := by decide +kernel
theorem d_D_commit_61 : decode c_D_commit 61 = .ok (.invokevirtual 61, 3) := by decide +kernel
theorem d_D_commit_64 : decode c_D_commit 64 = .ok (.aload_n 0, 1) := by decide +kernel
theorem d_D_commit_65 : decode c_D_commit 65 = .ok (.getfield 47, 3) := by decide +kernel
theorem d_D_commit_68 : decode c_D_commit 68 = .ok (.invokevirtual 65, 3) := by decide +kernel
theorem d_D_commit_71 : decode c_D_commit 71 = .ok (.iastore, 1) := by decide +kernel
theorem d_D_commit_72 : decode c_D_commit 72 = .ok (.aload_n 0, 1) := by decide +kernel
theorem d_D_commit_73 : decode c_D_commit 73 = .ok (.iconst 0, 1) := by decide +kernel
theorem d_D_commit_74 : decode c_D_commit 74 = .ok (.putfield 47, 3) := by decide +kernel
theorem d_D_commit_77 : decode c_D_commit 77 = .ok (.aload_n 0, 1) := by decide +kernel
theorem d_D_commit_78 : decode c_D_commit 78 = .ok (.invokevirtual 61, 3) := by decide +kernel
theorem d_D_commit_81 : decode c_D_commit 81 = .ok (.ireturn, 1) := by decide +kernel
theorem d_D_branch_0 : decode c_D_branch 0 = .ok (.iload_n 1, 1) := by decide +kernel
theorem d_D_branch_1 : decode c_D_branch 1 = .ok (.invokestatic 69, 3) := by decide +kernel
theorem d_D_branch_4 : decode c_D_branch 4 = .ok (.ifCond .eq 19, 3) := by decide +kernel
theorem d_D_branch_7 : decode c_D_branch 7 = .ok (.aload_n 0, 1) := by decide +kernel
theorem d_D_branch_8 : decode c_D_branch 8 = .ok (.getfield 26, 3) := by decide +kernel
theorem d_D_branch_11 : decode c_D_branch 11 = .ok (.iload_n 1, 1) := by decide +kernel
theorem d_D_branch_12 : decode c_D_branch 12 = .ok (.iaload, 1) := by decide +kernel
theorem d_D_branch_13 : decode c_D_branch 13 = .ok (.ifCond .ne 10, 3) := by decide +kernel
theorem d_D_branch_16 : decode c_D_branch 16 = .ok (.aload_n 0, 1) := by decide +kernel
theorem d_D_branch_17 : decode c_D_branch 17 = .ok (.invokevirtual 61, 3) := by decide +kernel
theorem d_D_branch_20 : decode c_D_branch 20 = .ok (.ifCond .ne 5, 3) := by decide +kernel
theorem d_D_branch_23 : decode c_D_branch 23 = .ok (.iconst (-1), 1) := by decide +kernel
theorem d_D_branch_24 : decode c_D_branch 24 = .ok (.ireturn, 1) := by decide +kernel
theorem d_D_branch_25 : decode c_D_branch 25 = .ok (.aload_n 0, 1) := by decide +kernel
theorem d_D_branch_26 : decode c_D_branch 26 = .ok (.getfield 26, 3) := by decide +kernel
theorem d_D_branch_29 : decode c_D_branch 29 = .ok (.iload_n 1, 1) := by decide +kernel
theorem d_D_branch_30 : decode c_D_branch 30 = .ok (.aload_n 0, 1) := by decide +kernel
theorem d_D_branch_31 : decode c_D_branch 31 = .ok (.invokevirtual 61, 3) := by decide +kernel
theorem d_D_branch_34 : decode c_D_branch 34 = .ok (.iastore, 1) := by decide +kernel
theorem d_D_branch_35 : decode c_D_branch 35 = .ok (.iconst 0, 1) := by decide +kernel
theorem d_D_branch_36 : decode c_D_branch 36 = .ok (.ireturn, 1) := by decide +kernel
theorem d_D_turn_0 : decode c_D_turn 0 = .ok (.aload_n 0, 1) := by decide +kernel
theorem d_D_turn_1 : decode c_D_turn 1 = .ok (.iload_n 1, 1) := by decide +kernel
theorem d_D_turn_2 : decode c_D_turn 2 = .ok (.invokevirtual 72, 3) := by decide +kernel
theorem d_D_turn_5 : decode c_D_turn 5 = .ok (.ifCond .eq 10, 3) := by decide +kernel
theorem d_D_turn_8 : decode c_D_turn 8 = .ok (.aload_n 0, 1) := by decide +kernel
theorem d_D_turn_9 : decode c_D_turn 9 = .ok (.getfield 47, 3) := by decide +kernel
theorem d_D_turn_12 : decode c_D_turn 12 = .ok (.ifCond .eq 5, 3) := by decide +kernel
theorem d_D_turn_15 : decode c_D_turn 15 = .ok (.iconst (-1), 1) := by decide +kernel
theorem d_D_turn_16 : decode c_D_turn 16 = .ok (.ireturn, 1) := by decide +kernel
theorem d_D_turn_17 : decode c_D_turn 17 = .ok (.aload_n 0, 1) := by decide +kernel
theorem d_D_turn_18 : decode c_D_turn 18 = .ok (.invokevirtual 75, 3) := by decide +kernel
theorem d_D_turn_21 : decode c_D_turn 21 = .ok (.ifCond .ne 6, 3) := by decide +kernel
theorem d_D_turn_24 : decode c_D_turn 24 = .ok (.bipush (-4), 2) := by decide +kernel
theorem d_D_turn_26 : decode c_D_turn 26 = .ok (.ireturn, 1) := by decide +kernel
theorem d_D_turn_27 : decode c_D_turn 27 = .ok (.aload_n 0, 1) := by decide +kernel
theorem d_D_turn_28 : decode c_D_turn 28 = .ok (.iload_n 1, 1) := by decide +kernel
theorem d_D_turn_29 : decode c_D_turn 29 = .ok (.putfield 58, 3) := by decide +kernel
theorem d_D_turn_32 : decode c_D_turn 32 = .ok (.aload_n 0, 1) := by decide +kernel
theorem d_D_turn_33 : decode c_D_turn 33 = .ok (.aload_n 0, 1) := by decide +kernel
theorem d_D_turn_34 : decode c_D_turn 34 = .ok (.getfield 26, 3) := by decide +kernel
theorem d_D_turn_37 : decode c_D_turn 37 = .ok (.iload_n 1, 1) := by decide +kernel
theorem d_D_turn_38 : decode c_D_turn 38 = .ok (.iaload, 1) := by decide +kernel
theorem d_D_turn_39 : decode c_D_turn 39 = .ok (.invokevirtual 78, 3) := by decide +kernel
theorem d_D_turn_42 : decode c_D_turn 42 = .ok (.ireturn, 1) := by decide +kernel
theorem d_D_merge_0 : decode c_D_merge 0 = .ok (.aload_n 0, 1) := by decide +kernel
theorem d_D_merge_1 : decode c_D_merge 1 = .ok (.iload_n 1, 1) := by decide +kernel
theorem d_D_merge_2 : decode c_D_merge 2 = .ok (.invokevirtual 72, 3) := by decide +kernel
theorem d_D_merge_5 : decode c_D_merge 5 = .ok (.ifCond .eq 17, 3) := by decide +kernel
theorem d_D_merge_8 : decode c_D_merge 8 = .ok (.aload_n 0, 1) := by decide +kernel
theorem d_D_merge_9 : decode c_D_merge 9 = .ok (.invokevirtual 61, 3) := by decide +kernel
theorem d_D_merge_12 : decode c_D_merge 12 = .ok (.ifCond .eq 10, 3) := by decide +kernel
theorem d_D_merge_15 : decode c_D_merge 15 = .ok (.aload_n 0, 1) := by decide +kernel
theorem d_D_merge_16 : decode c_D_merge 16 = .ok (.getfield 47, 3) := by decide +kernel
theorem d_D_merge_19 : decode c_D_merge 19 = .ok (.ifCond .eq 5, 3) := by decide +kernel
theorem d_D_merge_22 : decode c_D_merge 22 = .ok (.iconst (-1), 1) := by decide +kernel
theorem d_D_merge_23 : decode c_D_merge 23 = .ok (.ireturn, 1) := by decide +kernel
theorem d_D_merge_24 : decode c_D_merge 24 = .ok (.aload_n 0, 1) := by decide +kernel
theorem d_D_merge_25 : decode c_D_merge 25 = .ok (.invokevirtual 75, 3) := by decide +kernel
theorem d_D_merge_28 : decode c_D_merge 28 = .ok (.ifCond .ne 6, 3) := by decide +kernel
theorem d_D_merge_31 : decode c_D_merge 31 = .ok (.bipush (-4), 2) := by decide +kernel
