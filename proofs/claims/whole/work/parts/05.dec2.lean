theorem d_M_copy_22 : decode c_M_copy 22 = .ok (.bipush 16, 2) := by decide +kernel
theorem d_M_copy_24 : decode c_M_copy 24 = .ok (.iload_n 1, 1) := by decide +kernel
theorem d_M_copy_25 : decode c_M_copy 25 = .ok (.imul, 1) := by decide +kernel
theorem d_M_copy_26 : decode c_M_copy 26 = .ok (.iload_n 3, 1) := by decide +kernel
theorem d_M_copy_27 : decode c_M_copy 27 = .ok (.iadd, 1) := by decide +kernel
theorem d_M_copy_28 : decode c_M_copy 28 = .ok (.iaload, 1) := by decide +kernel
theorem d_M_copy_29 : decode c_M_copy 29 = .ok (.iastore, 1) := by decide +kernel
theorem d_M_copy_30 : decode c_M_copy 30 = .ok (.iinc 3 1, 3) := by decide +kernel
theorem d_M_copy_33 : decode c_M_copy 33 = .ok (.goto (-31), 3) := by decide +kernel
theorem d_M_copy_36 : decode c_M_copy 36 = .ok (.return_, 1) := by decide +kernel
theorem d_M_show_0 : decode c_M_show 0 = .ok (.aload_n 0, 1) := by decide +kernel
theorem d_M_show_1 : decode c_M_show 1 = .ok (.iload_n 1, 1) := by decide +kernel
theorem d_M_show_2 : decode c_M_show 2 = .ok (.bipush 32, 2) := by decide +kernel
theorem d_M_show_4 : decode c_M_show 4 = .ok (.invokevirtual 46, 3) := by decide +kernel
theorem d_M_show_7 : decode c_M_show 7 = .ok (.aload_n 0, 1) := by decide +kernel
theorem d_M_show_8 : decode c_M_show 8 = .ok (.iload_n 1, 1) := by decide +kernel
theorem d_M_show_9 : decode c_M_show 9 = .ok (.bipush 31, 2) := by decide +kernel
theorem d_M_show_11 : decode c_M_show 11 = .ok (.invokevirtual 46, 3) := by decide +kernel
theorem d_M_show_14 : decode c_M_show 14 = .ok (.return_, 1) := by decide +kernel
theorem d_M_tidy_0 : decode c_M_tidy 0 = .ok (.aload_n 0, 1) := by decide +kernel
theorem d_M_tidy_1 : decode c_M_tidy 1 = .ok (.bipush 31, 2) := by decide +kernel
theorem d_M_tidy_3 : decode c_M_tidy 3 = .ok (.bipush 32, 2) := by decide +kernel
theorem d_M_tidy_5 : decode c_M_tidy 5 = .ok (.invokevirtual 50, 3) := by decide +kernel
theorem d_M_tidy_8 : decode c_M_tidy 8 = .ok (.ifCond .eq 20, 3) := by decide +kernel
theorem d_M_tidy_11 : decode c_M_tidy 11 = .ok (.aload_n 0, 1) := by decide +kernel
theorem d_M_tidy_12 : decode c_M_tidy 12 = .ok (.bipush 32, 2) := by decide +kernel
theorem d_M_tidy_14 : decode c_M_tidy 14 = .ok (.aload_n 0, 1) := by decide +kernel
theorem d_M_tidy_15 : decode c_M_tidy 15 = .ok (.invokevirtual 54, 3) := by decide +kernel
theorem d_M_tidy_18 : decode c_M_tidy 18 = .ok (.invokevirtual 50, 3) := by decide +kernel
theorem d_M_tidy_21 : decode c_M_tidy 21 = .ok (.ifCond .eq 7, 3) := by decide +kernel
theorem d_M_tidy_24 : decode c_M_tidy 24 = .ok (.iconst 1, 1) := by decide +kernel
theorem d_M_tidy_25 : decode c_M_tidy 25 = .ok (.goto 4, 3) := by decide +kernel
theorem d_M_tidy_28 : decode c_M_tidy 28 = .ok (.iconst 0, 1) := by decide +kernel
theorem d_M_tidy_29 : decode c_M_tidy 29 = .ok (.ireturn, 1) := by decide +kernel
theorem d_M_write_0 : decode c_M_write 0 = .ok (.iload_n 1, 1) := by decide +kernel
theorem d_M_write_1 : decode c_M_write 1 = .ok (.iconst 0, 1) := by decide +kernel
theorem d_M_write_2 : decode c_M_write 2 = .ok (.bipush 15, 2) := by decide +kernel
theorem d_M_write_4 : decode c_M_write 4 = .ok (.invokestatic 42, 3) := by decide +kernel
theorem d_M_write_7 : decode c_M_write 7 = .ok (.ifCond .eq 14, 3) := by decide +kernel
theorem d_M_write_10 : decode c_M_write 10 = .ok (.iload_n 2, 1) := by decide +kernel
theorem d_M_write_11 : decode c_M_write 11 = .ok (.iconst 0, 1) := by decide +kernel
theorem d_M_write_12 : decode c_M_write 12 = .ok (.sipush 9999, 3) := by decide +kernel
theorem d_M_write_15 : decode c_M_write 15 = .ok (.invokestatic 42, 3) := by decide +kernel
theorem d_M_write_18 : decode c_M_write 18 = .ok (.ifCond .ne 5, 3) := by decide +kernel
theorem d_M_write_21 : decode c_M_write 21 = .ok (.iconst (-1), 1) := by decide +kernel
theorem d_M_write_22 : decode c_M_write 22 = .ok (.ireturn, 1) := by decide +kernel
theorem d_M_write_23 : decode c_M_write 23 = .ok (.aload_n 0, 1) := by decide +kernel
theorem d_M_write_24 : decode c_M_write 24 = .ok (.getfield 7, 3) := by decide +kernel
theorem d_M_write_27 : decode c_M_write 27 = .ok (.sipush 496, 3) := by decide +kernel
theorem d_M_write_30 : decode c_M_write 30 = .ok (.iload_n 1, 1) := by decide +kernel
theorem d_M_write_31 : decode c_M_write 31 = .ok (.iadd, 1) := by decide +kernel
theorem d_M_write_32 : decode c_M_write 32 = .ok (.iload_n 2, 1) := by decide +kernel
theorem d_M_write_33 : decode c_M_write 33 = .ok (.iastore, 1) := by decide +kernel
theorem d_M_write_34 : decode c_M_write 34 = .ok (.iconst 0, 1) := by decide +kernel
theorem d_M_write_35 : decode c_M_write 35 = .ok (.ireturn, 1) := by decide +kernel
theorem d_M_stage_0 : decode c_M_stage 0 = .ok (.iload_n 1, 1) := by decide +kernel
theorem d_M_stage_1 : decode c_M_stage 1 = .ok (.iconst 0, 1) := by decide +kernel
theorem d_M_stage_2 : decode c_M_stage 2 = .ok (.bipush 15, 2) := by decide +kernel
theorem d_M_stage_4 : decode c_M_stage 4 = .ok (.invokestatic 42, 3) := by decide +kernel
theorem d_M_stage_7 : decode c_M_stage 7 = .ok (.ifCond .ne 5, 3) := by decide +kernel
theorem d_M_stage_10 : decode c_M_stage 10 = .ok (.iconst (-1), 1) := by decide +kernel
theorem d_M_stage_11 : decode c_M_stage 11 = .ok (.ireturn, 1) := by decide +kernel
theorem d_M_stage_12 : decode c_M_stage 12 = .ok (.aload_n 0, 1) := by decide +kernel
theorem d_M_stage_13 : decode c_M_stage 13 = .ok (.getfield 7, 3) := by decide +kernel
theorem d_M_stage_16 : decode c_M_stage 16 = .ok (.sipush 496, 3) := by decide +kernel
theorem d_M_stage_19 : decode c_M_stage 19 = .ok (.iload_n 1, 1) := by decide +kernel
theorem d_M_stage_20 : decode c_M_stage 20 = .ok (.iadd, 1) := by decide +kernel
theorem d_M_stage_21 : decode c_M_stage 21 = .ok (.iaload, 1) := by decide +kernel
theorem d_M_stage_22 : decode c_M_stage 22 = .ok (.istore_n 2, 1) := by decide +kernel
theorem d_M_stage_23 : decode c_M_stage 23 = .ok (.aload_n 0, 1) := by decide +kernel
theorem d_M_stage_24 : decode c_M_stage 24 = .ok (.getfield 7, 3) := by decide +kernel
theorem d_M_stage_27 : decode c_M_stage 27 = .ok (.sipush 512, 3) := by decide +kernel
theorem d_M_stage_30 : decode c_M_stage 30 = .ok (.iload_n 1, 1) := by decide +kernel
theorem d_M_stage_31 : decode c_M_stage 31 = .ok (.iadd, 1) := by decide +kernel
theorem d_M_stage_32 : decode c_M_stage 32 = .ok (.iload_n 2, 1) := by decide +kernel
theorem d_M_stage_33 : decode c_M_stage 33 = .ok (.iastore, 1) := by decide +kernel
theorem d_M_stage_34 : decode c_M_stage 34 = .ok (.iload_n 2, 1) := by decide +kernel
theorem d_M_stage_35 : decode c_M_stage 35 = .ok (.ifCond .le 10, 3) := by decide +kernel
theorem d_M_stage_38 : decode c_M_stage 38 = .ok (.aload_n 0, 1) := by decide +kernel
theorem d_M_stage_39 : decode c_M_stage 39 = .ok (.getfield 29, 3) := by decide +kernel
theorem d_M_stage_42 : decode c_M_stage 42 = .ok (.iload_n 2, 1) := by decide +kernel
theorem d_M_stage_43 : decode c_M_stage 43 = .ok (.iconst 1, 1) := by decide +kernel
theorem d_M_stage_44 : decode c_M_stage 44 = .ok (.bastore, 1) := by decide +kernel
theorem d_M_stage_45 : decode c_M_stage 45 = .ok (.aload_n 0, 1) := by decide +kernel
theorem d_M_stage_46 : decode c_M_stage 46 = .ok (.getfield 26, 3) := by decide +kernel
theorem d_M_stage_49 : decode c_M_stage 49 = .ok (.iload_n 1, 1) := by decide +kernel
theorem d_M_stage_50 : decode c_M_stage 50 = .ok (.iconst 0, 1) := by decide +kernel
theorem d_M_stage_51 : decode c_M_stage 51 = .ok (.bastore, 1) := by decide +kernel
theorem d_M_stage_52 : decode c_M_stage 52 = .ok (.iconst 0, 1) := by decide +kernel
theorem d_M_stage_53 : decode c_M_stage 53 = .ok (.ireturn, 1) := by decide +kernel
theorem d_M_make_0 : decode c_M_make 0 = .ok (.aload_n 0, 1) := by decide +kernel
theorem d_M_make_1 : decode c_M_make 1 = .ok (.dup, 1) := by decide +kernel
theorem d_M_make_2 : decode c_M_make 2 = .ok (.getfield 58, 3) := by decide +kernel
theorem d_M_make_5 : decode c_M_make 5 = .ok (.iconst 1, 1) := by decide +kernel
theorem d_M_make_6 : decode c_M_make 6 = .ok (.iadd, 1) := by decide +kernel
theorem d_M_make_7 : decode c_M_make 7 = .ok (.putfield 58, 3) := by decide +kernel
theorem d_M_make_10 : decode c_M_make 10 = .ok (.aload_n 0, 1) := by decide +kernel
theorem d_M_make_11 : decode c_M_make 11 = .ok (.iload_n 1, 1) := by decide +kernel
theorem d_M_make_12 : decode c_M_make 12 = .ok (.aload_n 0, 1) := by decide +kernel
theorem d_M_make_13 : decode c_M_make 13 = .ok (.getfield 58, 3) := by decide +kernel
theorem d_M_make_16 : decode c_M_make 16 = .ok (.invokevirtual 46, 3) := by decide +kernel
theorem d_M_make_19 : decode c_M_make 19 = .ok (.aload_n 0, 1) := by decide +kernel
theorem d_M_make_20 : decode c_M_make 20 = .ok (.getfield 13, 3) := by decide +kernel
theorem d_M_make_23 : decode c_M_make 23 = .ok (.aload_n 0, 1) := by decide +kernel
theorem d_M_make_24 : decode c_M_make 24 = .ok (.getfield 58, 3) := by decide +kernel
theorem d_M_make_27 : decode c_M_make 27 = .ok (.iconst 1, 1) := by decide +kernel
theorem d_M_make_28 : decode c_M_make 28 = .ok (.bastore, 1) := by decide +kernel
theorem d_M_make_29 : decode c_M_make 29 = .ok (.aload_n 0, 1) := by decide +kernel
theorem d_M_make_30 : decode c_M_make 30 = .ok (.getfield 17, 3) := by decide +kernel
theorem d_M_make_33 : decode c_M_make 33 = .ok (.aload_n 0, 1) := by decide +kernel
theorem d_M_make_34 : decode c_M_make 34 = .ok (.getfield 58, 3) := by decide +kernel
theorem d_M_make_37 : decode c_M_make 37 = .ok (.iload_n 2, 1) := by decide +kernel
theorem d_M_make_38 : decode c_M_make 38 = .ok (.iastore, 1) := by decide +kernel
theorem d_M_make_39 : decode c_M_make 39 = .ok (.aload_n 0, 1) := by decide +kernel
theorem d_M_make_40 : decode c_M_make 40 = .ok (.getfield 20, 3) := by decide +kernel
theorem d_M_make_43 : decode c_M_make 43 = .ok (.aload_n 0, 1) := by decide +kernel
theorem d_M_make_44 : decode c_M_make 44 = .ok (.getfield 58, 3) := by decide +kernel
theorem d_M_make_47 : decode c_M_make 47 = .ok (.iload_n 3, 1) := by decide +kernel
theorem d_M_make_48 : decode c_M_make 48 = .ok (.iastore, 1) := by decide +kernel
theorem d_M_make_49 : decode c_M_make 49 = .ok (.iconst 0, 1) := by decide +kernel
theorem d_M_make_50 : decode c_M_make 50 = .ok (.istore 4, 2) := by decide +kernel
theorem d_M_make_52 : decode c_M_make 52 = .ok (.iload 4, 2) := by decide +kernel
theorem d_M_make_54 : decode c_M_make 54 = .ok (.bipush 16, 2) := by decide +kernel
theorem d_M_make_56 : decode c_M_make 56 = .ok (.if_icmp .ge 48, 3) := by decide +kernel
theorem d_M_make_59 : decode c_M_make 59 = .ok (.aload_n 0, 1) := by decide +kernel
theorem d_M_make_60 : decode c_M_make 60 = .ok (.getfield 7, 3) := by decide +kernel
theorem d_M_make_63 : decode c_M_make 63 = .ok (.bipush 16, 2) := by decide +kernel
theorem d_M_make_65 : decode c_M_make 65 = .ok (.aload_n 0, 1) := by decide +kernel
theorem d_M_make_66 : decode c_M_make 66 = .ok (.getfield 58, 3) := by decide +kernel
theorem d_M_make_69 : decode c_M_make 69 = .ok (.imul, 1) := by decide +kernel
theorem d_M_make_70 : decode c_M_make 70 = .ok (.iload 4, 2) := by decide +kernel
theorem d_M_make_72 : decode c_M_make 72 = .ok (.iadd, 1) := by decide +kernel
theorem d_M_make_73 : decode c_M_make 73 = .ok (.iaload, 1) := by decide +kernel
theorem d_M_make_74 : decode c_M_make 74 = .ok (.ifCond .le 24, 3) := by decide +kernel
theorem d_M_make_77 : decode c_M_make 77 = .ok (.aload_n 0, 1) := by decide +kernel
theorem d_M_make_78 : decode c_M_make 78 = .ok (.getfield 29, 3) := by decide +kernel
theorem d_M_make_81 : decode c_M_make 81 = .ok (.aload_n 0, 1) := by decide +kernel
theorem d_M_make_82 : decode c_M_make 82 = .ok (.getfield 7, 3) := by decide +kernel
theorem d_M_make_85 : decode c_M_make 85 = .ok (.bipush 16, 2) := by decide +kernel
theorem d_M_make_87 : decode c_M_make 87 = .ok (.aload_n 0, 1) := by decide +kernel
theorem d_M_make_88 : decode c_M_make 88 = .ok (.getfield 58, 3) := by decide +kernel
theorem d_M_make_91 : decode c_M_make 91 = .ok (.imul, 1) := by decide +kernel
theorem d_M_make_92 : decode c_M_make 92 = .ok (.iload 4, 2) := by decide +kernel
theorem d_M_make_94 : decode c_M_make 94 = .ok (.iadd, 1) := by decide +kernel
theorem d_M_make_95 : decode c_M_make 95 = .ok (.iaload, 1) := by decide +kernel
theorem d_M_make_96 : decode c_M_make 96 = .ok (.iconst 1, 1) := by decide +kernel
theorem d_M_make_97 : decode c_M_make 97 = .ok (.bastore, 1) := by decide +kernel
theorem d_M_make_98 : decode c_M_make 98 = .ok (.iinc 4 1, 3) := by decide +kernel
theorem d_M_make_101 : decode c_M_make 101 = .ok (.goto (-49), 3) := by decide +kernel
theorem d_M_make_104 : decode c_M_make 104 = .ok (.aload_n 0, 1) := by decide +kernel
theorem d_M_make_105 : decode c_M_make 105 = .ok (.getfield 23, 3) := by decide +kernel
theorem d_M_make_108 : decode c_M_make 108 = .ok (.aload_n 0, 1) := by decide +kernel
theorem d_M_make_109 : decode c_M_make 109 = .ok (.getfield 38, 3) := by decide +kernel
theorem d_M_make_112 : decode c_M_make 112 = .ok (.aload_n 0, 1) := by decide +kernel
theorem d_M_make_113 : decode c_M_make 113 = .ok (.getfield 58, 3) := by decide +kernel
theorem d_M_make_116 : decode c_M_make 116 = .ok (.iastore, 1) := by decide +kernel
theorem d_M_make_117 : decode c_M_make 117 = .ok (.aload_n 0, 1) := by decide +kernel
theorem d_M_make_118 : decode c_M_make 118 = .ok (.getfield 58, 3) := by decide +kernel
theorem d_M_make_121 : decode c_M_make 121 = .ok (.ireturn, 1) := by decide +kernel
theorem d_M_clashes_0 : decode c_M_clashes 0 = .ok (.iconst 0, 1) := by decide +kernel
theorem d_M_clashes_1 : decode c_M_clashes 1 = .ok (.istore_n 1, 1) := by decide +kernel
theorem d_M_clashes_2 : decode c_M_clashes 2 = .ok (.iconst 0, 1) := by decide +kernel
theorem d_M_clashes_3 : decode c_M_clashes 3 = .ok (.istore_n 2, 1) := by decide +kernel
theorem d_M_clashes_4 : decode c_M_clashes 4 = .ok (.iload_n 2, 1) := by decide +kernel
theorem d_M_clashes_5 : decode c_M_clashes 5 = .ok (.bipush 16, 2) := by decide +kernel
theorem d_M_clashes_7 : decode c_M_clashes 7 = .ok (.if_icmp .ge 21, 3) := by decide +kernel
theorem d_M_clashes_10 : decode c_M_clashes 10 = .ok (.aload_n 0, 1) := by decide +kernel
theorem d_M_clashes_11 : decode c_M_clashes 11 = .ok (.getfield 26, 3) := by decide +kernel
theorem d_M_clashes_14 : decode c_M_clashes 14 = .ok (.iload_n 2, 1) := by decide +kernel
theorem d_M_clashes_15 : decode c_M_clashes 15 = .ok (.baload, 1) := by decide +kernel
theorem d_M_clashes_16 : decode c_M_clashes 16 = .ok (.ifCond .eq 6, 3) := by decide +kernel
theorem d_M_clashes_19 : decode c_M_clashes 19 = .ok (.iinc 1 1, 3) := by decide +kernel
theorem d_M_clashes_22 : decode c_M_clashes 22 = .ok (.iinc 2 1, 3) := by decide +kernel
theorem d_M_clashes_25 : decode c_M_clashes 25 = .ok (.goto (-21), 3) := by decide +kernel
theorem d_M_clashes_28 : decode c_M_clashes 28 = .ok (.iload_n 1, 1) := by decide +kernel
theorem d_M_clashes_29 : decode c_M_clashes 29 = .ok (.ireturn, 1) := by decide +kernel
theorem d_M_commit_0 : decode c_M_commit 0 = .ok (.aload_n 0, 1) := by decide +kernel
theorem d_M_commit_1 : decode c_M_commit 1 = .ok (.invokevirtual 61, 3) := by decide +kernel
theorem d_M_commit_4 : decode c_M_commit 4 = .ok (.ifCond .le 6, 3) := by decide +kernel
theorem d_M_commit_7 : decode c_M_commit 7 = .ok (.bipush (-5), 2) := by decide +kernel
theorem d_M_commit_9 : decode c_M_commit 9 = .ok (.ireturn, 1) := by decide +kernel
theorem d_M_commit_10 : decode c_M_commit 10 = .ok (.aload_n 0, 1) := by decide +kernel
theorem d_M_commit_11 : decode c_M_commit 11 = .ok (.getfield 64, 3) := by decide +kernel
theorem d_M_commit_14 : decode c_M_commit 14 = .ok (.ifCond .ne 19, 3) := by decide +kernel
theorem d_M_commit_17 : decode c_M_commit 17 = .ok (.aload_n 0, 1) := by decide +kernel
theorem d_M_commit_18 : decode c_M_commit 18 = .ok (.bipush 32, 2) := by decide +kernel
theorem d_M_commit_20 : decode c_M_commit 20 = .ok (.aload_n 0, 1) := by decide +kernel
theorem d_M_commit_21 : decode c_M_commit 21 = .ok (.invokevirtual 54, 3) := by decide +kernel
theorem d_M_commit_24 : decode c_M_commit 24 = .ok (.invokevirtual 50, 3) := by decide +kernel
theorem d_M_commit_27 : decode c_M_commit 27 = .ok (.ifCond .eq 6, 3) := by decide +kernel
theorem d_M_commit_30 : decode c_M_commit 30 = .ok (.bipush (-3), 2) := by decide +kernel
theorem d_M_commit_32 : decode c_M_commit 32 = .ok (.ireturn, 1) := by decide +kernel
theorem d_M_commit_33 : decode c_M_commit 33 = .ok (.aload_n 0, 1) := by decide +kernel
theorem d_M_commit_34 : decode c_M_commit 34 = .ok (.getfield 58, 3) := by decide +kernel
theorem d_M_commit_37 : decode c_M_commit 37 = .ok (.bipush 30, 2) := by decide +kernel
theorem d_M_commit_39 : decode c_M_commit 39 = .ok (.if_icmp .ne 6, 3) := by decide +kernel
theorem d_M_commit_42 : decode c_M_commit 42 = .ok (.bipush (-2), 2) := by decide +kernel
theorem d_M_commit_44 : decode c_M_commit 44 = .ok (.ireturn, 1) := by decide +kernel
theorem d_M_commit_45 : decode c_M_commit 45 = .ok (.aload_n 0, 1) := by decide +kernel
theorem d_M_commit_46 : decode c_M_commit 46 = .ok (.invokevirtual 54, 3) := by decide +kernel
theorem d_M_commit_49 : decode c_M_commit 49 = .ok (.ifCond .le 10, 3) := by decide +kernel
theorem d_M_commit_52 : decode c_M_commit 52 = .ok (.aload_n 0, 1) := by decide +kernel
theorem d_M_commit_53 : decode c_M_commit 53 = .ok (.invokevirtual 54, 3) := by decide +kernel
theorem d_M_commit_56 : decode c_M_commit 56 = .ok (.goto 7, 3) := by decide +kernel
theorem d_M_commit_59 : decode c_M_commit 59 = .ok (.aload_n 0, 1) := by decide +kernel
theorem d_M_commit_60 : decode c_M_commit 60 = .ok (.getfield 64, 3) := by decide +kernel
theorem d_M_commit_63 : decode c_M_commit 63 = .ok (.istore_n 1, 1) := by decide +kernel
theorem d_M_commit_64 : decode c_M_commit 64 = .ok (.aload_n 0, 1) := by decide +kernel
theorem d_M_commit_65 : decode c_M_commit 65 = .ok (.invokevirtual 54, 3) := by decide +kernel
theorem d_M_commit_68 : decode c_M_commit 68 = .ok (.ifCond .le 10, 3) := by decide +kernel
theorem d_M_commit_71 : decode c_M_commit 71 = .ok (.aload_n 0, 1) := by decide +kernel
theorem d_M_commit_72 : decode c_M_commit 72 = .ok (.getfield 64, 3) := by decide +kernel
theorem d_M_commit_75 : decode c_M_commit 75 = .ok (.goto 4, 3) := by decide +kernel
theorem d_M_commit_78 : decode c_M_commit 78 = .ok (.iconst 0, 1) := by decide +kernel
theorem d_M_commit_79 : decode c_M_commit 79 = .ok (.istore_n 2, 1) := by decide +kernel
theorem d_M_commit_80 : decode c_M_commit 80 = .ok (.aload_n 0, 1) := by decide +kernel
theorem d_M_commit_81 : decode c_M_commit 81 = .ok (.iconst 0, 1) := by decide +kernel
theorem d_M_commit_82 : decode c_M_commit 82 = .ok (.putfield 64, 3) := by decide +kernel
theorem d_M_commit_85 : decode c_M_commit 85 = .ok (.aload_n 0, 1) := by decide +kernel
theorem d_M_commit_86 : decode c_M_commit 86 = .ok (.bipush 32, 2) := by decide +kernel
theorem d_M_commit_88 : decode c_M_commit 88 = .ok (.iload_n 1, 1) := by decide +kernel
theorem d_M_commit_89 : decode c_M_commit 89 = .ok (.iload_n 2, 1) := by decide +kernel
theorem d_M_commit_90 : decode c_M_commit 90 = .ok (.invokevirtual 67, 3) := by decide +kernel
theorem d_M_commit_93 : decode c_M_commit 93 = .ok (.ireturn, 1) := by decide +kernel
theorem d_M_branch_0 : decode c_M_branch 0 = .ok (.iload_n 1, 1) := by decide +kernel
theorem d_M_branch_1 : decode c_M_branch 1 = .ok (.iconst 0, 1) := by decide +kernel
theorem d_M_branch_2 : decode c_M_branch 2 = .ok (.iconst 5, 1) := by decide +kernel
theorem d_M_branch_3 : decode c_M_branch 3 = .ok (.invokestatic 42, 3) := by decide +kernel
theorem d_M_branch_6 : decode c_M_branch 6 = .ok (.ifCond .eq 19, 3) := by decide +kernel
theorem d_M_branch_9 : decode c_M_branch 9 = .ok (.aload_n 0, 1) := by decide +kernel
theorem d_M_branch_10 : decode c_M_branch 10 = .ok (.getfield 23, 3) := by decide +kernel
theorem d_M_branch_13 : decode c_M_branch 13 = .ok (.iload_n 1, 1) := by decide +kernel
theorem d_M_branch_14 : decode c_M_branch 14 = .ok (.iaload, 1) := by decide +kernel
theorem d_M_branch_15 : decode c_M_branch 15 = .ok (.ifCond .gt 10, 3) := by decide +kernel
theorem d_M_branch_18 : decode c_M_branch 18 = .ok (.aload_n 0, 1) := by decide +kernel
theorem d_M_branch_19 : decode c_M_branch 19 = .ok (.invokevirtual 54, 3) := by decide +kernel
theorem d_M_branch_22 : decode c_M_branch 22 = .ok (.ifCond .ne 5, 3) := by decide +kernel
theorem d_M_branch_25 : decode c_M_branch 25 = .ok (.iconst (-1), 1) := by decide +kernel
theorem d_M_branch_26 : decode c_M_branch 26 = .ok (.ireturn, 1) := by decide +kernel
theorem d_M_branch_27 : decode c_M_branch 27 = .ok (.aload_n 0, 1) := by decide +kernel
theorem d_M_branch_28 : decode c_M_branch 28 = .ok (.getfield 23, 3) := by decide +kernel
theorem d_M_branch_31 : decode c_M_branch 31 = .ok (.iload_n 1, 1) := by decide +kernel
theorem d_M_branch_32 : decode c_M_branch 32 = .ok (.aload_n 0, 1) := by decide +kernel
theorem d_M_branch_33 : decode c_M_branch 33 = .ok (.invokevirtual 54, 3) := by decide +kernel
theorem d_M_branch_36 : decode c_M_branch 36 = .ok (.iastore, 1) := by decide +kernel
theorem d_M_branch_37 : decode c_M_branch 37 = .ok (.iconst 0, 1) := by decide +kernel
theorem d_M_branch_38 : decode c_M_branch 38 = .ok (.ireturn, 1) := by decide +kernel
theorem d_M_turn_0 : decode c_M_turn 0 = .ok (.iload_n 1, 1) := by decide +kernel
theorem d_M_turn_1 : decode c_M_turn 1 = .ok (.iconst 0, 1) := by decide +kernel
theorem d_M_turn_2 : decode c_M_turn 2 = .ok (.iconst 5, 1) := by decide +kernel
theorem d_M_turn_3 : decode c_M_turn 3 = .ok (.invokestatic 42, 3) := by decide +kernel
theorem d_M_turn_6 : decode c_M_turn 6 = .ok (.ifCond .eq 19, 3) := by decide +kernel
theorem d_M_turn_9 : decode c_M_turn 9 = .ok (.aload_n 0, 1) := by decide +kernel
theorem d_M_turn_10 : decode c_M_turn 10 = .ok (.getfield 23, 3) := by decide +kernel
theorem d_M_turn_13 : decode c_M_turn 13 = .ok (.iload_n 1, 1) := by decide +kernel
theorem d_M_turn_14 : decode c_M_turn 14 = .ok (.iaload, 1) := by decide +kernel
theorem d_M_turn_15 : decode c_M_turn 15 = .ok (.ifCond .eq 10, 3) := by decide +kernel
theorem d_M_turn_18 : decode c_M_turn 18 = .ok (.aload_n 0, 1) := by decide +kernel
theorem d_M_turn_19 : decode c_M_turn 19 = .ok (.getfield 64, 3) := by decide +kernel
theorem d_M_turn_22 : decode c_M_turn 22 = .ok (.ifCond .le 5, 3) := by decide +kernel
theorem d_M_turn_25 : decode c_M_turn 25 = .ok (.iconst (-1), 1) := by decide +kernel
theorem d_M_turn_26 : decode c_M_turn 26 = .ok (.ireturn, 1) := by decide +kernel
theorem d_M_turn_27 : decode c_M_turn 27 = .ok (.aload_n 0, 1) := by decide +kernel
theorem d_M_turn_28 : decode c_M_turn 28 = .ok (.invokevirtual 71, 3) := by decide +kernel
theorem d_M_turn_31 : decode c_M_turn 31 = .ok (.ifCond .ne 6, 3) := by decide +kernel
theorem d_M_turn_34 : decode c_M_turn 34 = .ok (.bipush (-4), 2) := by decide +kernel
theorem d_M_turn_36 : decode c_M_turn 36 = .ok (.ireturn, 1) := by decide +kernel
theorem d_M_turn_37 : decode c_M_turn 37 = .ok (.aload_n 0, 1) := by decide +kernel
theorem d_M_turn_38 : decode c_M_turn 38 = .ok (.iload_n 1, 1) := by decide +kernel
theorem d_M_turn_39 : decode c_M_turn 39 = .ok (.putfield 38, 3) := by decide +kernel
theorem d_M_turn_42 : decode c_M_turn 42 = .ok (.aload_n 0, 1) := by decide +kernel
theorem d_M_turn_43 : decode c_M_turn 43 = .ok (.aload_n 0, 1) := by decide +kernel
theorem d_M_turn_44 : decode c_M_turn 44 = .ok (.invokevirtual 54, 3) := by decide +kernel
theorem d_M_turn_47 : decode c_M_turn 47 = .ok (.invokevirtual 75, 3) := by decide +kernel
theorem d_M_turn_50 : decode c_M_turn 50 = .ok (.aload_n 0, 1) := by decide +kernel
theorem d_M_turn_51 : decode c_M_turn 51 = .ok (.invokevirtual 54, 3) := by decide +kernel
theorem d_M_turn_54 : decode c_M_turn 54 = .ok (.ireturn, 1) := by decide +kernel
theorem d_M_mark_0 : decode c_M_mark 0 = .ok (.iconst 0, 1) := by decide +kernel
theorem d_M_mark_1 : decode c_M_mark 1 = .ok (.istore_n 2, 1) := by decide +kernel
theorem d_M_mark_2 : decode c_M_mark 2 = .ok (.iload_n 2, 1) := by decide +kernel
theorem d_M_mark_3 : decode c_M_mark 3 = .ok (.bipush 31, 2) := by decide +kernel
theorem d_M_mark_5 : decode c_M_mark 5 = .ok (.if_icmp .ge 29, 3) := by decide +kernel
theorem d_M_mark_8 : decode c_M_mark 8 = .ok (.aload_n 0, 1) := by decide +kernel
theorem d_M_mark_9 : decode c_M_mark 9 = .ok (.getfield 32, 3) := by decide +kernel
theorem d_M_mark_12 : decode c_M_mark 12 = .ok (.iload_n 2, 1) := by decide +kernel
theorem d_M_mark_13 : decode c_M_mark 13 = .ok (.iload_n 2, 1) := by decide +kernel
theorem d_M_mark_14 : decode c_M_mark 14 = .ok (.iload_n 1, 1) := by decide +kernel
theorem d_M_mark_15 : decode c_M_mark 15 = .ok (.if_icmp .ne 11, 3) := by decide +kernel
theorem d_M_mark_18 : decode c_M_mark 18 = .ok (.iload_n 1, 1) := by decide +kernel
theorem d_M_mark_19 : decode c_M_mark 19 = .ok (.ifCond .le 7, 3) := by decide +kernel
theorem d_M_mark_22 : decode c_M_mark 22 = .ok (.iconst 1, 1) := by decide +kernel
theorem d_M_mark_23 : decode c_M_mark 23 = .ok (.goto 4, 3) := by decide +kernel
theorem d_M_mark_26 : decode c_M_mark 26 = .ok (.iconst 0, 1) := by decide +kernel
theorem d_M_mark_27 : decode c_M_mark 27 = .ok (.bastore, 1) := by decide +kernel
theorem d_M_mark_28 : decode c_M_mark 28 = .ok (.iinc 2 1, 3) := by decide +kernel
theorem d_M_mark_31 : decode c_M_mark 31 = .ok (.goto (-29), 3) := by decide +kernel
theorem d_M_mark_34 : decode c_M_mark 34 = .ok (.bipush 30, 2) := by decide +kernel
theorem d_M_mark_36 : decode c_M_mark 36 = .ok (.istore_n 2, 1) := by decide +kernel
theorem d_M_mark_37 : decode c_M_mark 37 = .ok (.iload_n 2, 1) := by decide +kernel
theorem d_M_mark_38 : decode c_M_mark 38 = .ok (.ifCond .le 45, 3) := by decide +kernel
theorem d_M_mark_41 : decode c_M_mark 41 = .ok (.aload_n 0, 1) := by decide +kernel
theorem d_M_mark_42 : decode c_M_mark 42 = .ok (.getfield 32, 3) := by decide +kernel
theorem d_M_mark_45 : decode c_M_mark 45 = .ok (.iload_n 2, 1) := by decide +kernel
theorem d_M_mark_46 : decode c_M_mark 46 = .ok (.baload, 1) := by decide +kernel
theorem d_M_mark_47 : decode c_M_mark 47 = .ok (.ifCond .ne 6, 3) := by decide +kernel
theorem d_M_mark_50 : decode c_M_mark 50 = .ok (.goto 27, 3) := by decide +kernel
theorem d_M_mark_53 : decode c_M_mark 53 = .ok (.aload_n 0, 1) := by decide +kernel
theorem d_M_mark_54 : decode c_M_mark 54 = .ok (.getfield 32, 3) := by decide +kernel
theorem d_M_mark_57 : decode c_M_mark 57 = .ok (.aload_n 0, 1) := by decide +kernel
theorem d_M_mark_58 : decode c_M_mark 58 = .ok (.getfield 17, 3) := by decide +kernel
theorem d_M_mark_61 : decode c_M_mark 61 = .ok (.iload_n 2, 1) := by decide +kernel
theorem d_M_mark_62 : decode c_M_mark 62 = .ok (.iaload, 1) := by decide +kernel
theorem d_M_mark_63 : decode c_M_mark 63 = .ok (.iconst 1, 1) := by decide +kernel
theorem d_M_mark_64 : decode c_M_mark 64 = .ok (.bastore, 1) := by decide +kernel
theorem d_M_mark_65 : decode c_M_mark 65 = .ok (.aload_n 0, 1) := by decide +kernel
theorem d_M_mark_66 : decode c_M_mark 66 = .ok (.getfield 32, 3) := by decide +kernel
theorem d_M_mark_69 : decode c_M_mark 69 = .ok (.aload_n 0, 1) := by decide +kernel
theorem d_M_mark_70 : decode c_M_mark 70 = .ok (.getfield 20, 3) := by decide +kernel
theorem d_M_mark_73 : decode c_M_mark 73 = .ok (.iload_n 2, 1) := by decide +kernel
theorem d_M_mark_74 : decode c_M_mark 74 = .ok (.iaload, 1) := by decide +kernel
theorem d_M_mark_75 : decode c_M_mark 75 = .ok (.iconst 1, 1) := by decide +kernel
theorem d_M_mark_76 : decode c_M_mark 76 = .ok (.bastore, 1) := by decide +kernel
theorem d_M_mark_77 : decode c_M_mark 77 = .ok (.iinc 2 (-1), 3) := by decide +kernel
theorem d_M_mark_80 : decode c_M_mark 80 = .ok (.goto (-43), 3) := by decide +kernel
theorem d_M_mark_83 : decode c_M_mark 83 = .ok (.aload_n 0, 1) := by decide +kernel
theorem d_M_mark_84 : decode c_M_mark 84 = .ok (.getfield 32, 3) := by decide +kernel
theorem d_M_mark_87 : decode c_M_mark 87 = .ok (.iconst 0, 1) := by decide +kernel
theorem d_M_mark_88 : decode c_M_mark 88 = .ok (.iconst 0, 1) := by decide +kernel
theorem d_M_mark_89 : decode c_M_mark 89 = .ok (.bastore, 1) := by decide +kernel
theorem d_M_mark_90 : decode c_M_mark 90 = .ok (.return_, 1) := by decide +kernel
theorem d_M_shared_0 : decode c_M_shared 0 = .ok (.aload_n 0, 1) := by decide +kernel
theorem d_M_shared_1 : decode c_M_shared 1 = .ok (.iload_n 1, 1) := by decide +kernel
theorem d_M_shared_2 : decode c_M_shared 2 = .ok (.invokevirtual 79, 3) := by decide +kernel
theorem d_M_shared_5 : decode c_M_shared 5 = .ok (.iconst 0, 1) := by decide +kernel
theorem d_M_shared_6 : decode c_M_shared 6 = .ok (.istore_n 3, 1) := by decide +kernel
theorem d_M_shared_7 : decode c_M_shared 7 = .ok (.iload_n 3, 1) := by decide +kernel
theorem d_M_shared_8 : decode c_M_shared 8 = .ok (.bipush 31, 2) := by decide +kernel
theorem d_M_shared_10 : decode c_M_shared 10 = .ok (.if_icmp .ge 21, 3) := by decide +kernel
theorem d_M_shared_13 : decode c_M_shared 13 = .ok (.aload_n 0, 1) := by decide +kernel
theorem d_M_shared_14 : decode c_M_shared 14 = .ok (.getfield 35, 3) := by decide +kernel
theorem d_M_shared_17 : decode c_M_shared 17 = .ok (.iload_n 3, 1) := by decide +kernel
theorem d_M_shared_18 : decode c_M_shared 18 = .ok (.aload_n 0, 1) := by decide +kernel
theorem d_M_shared_19 : decode c_M_shared 19 = .ok (.getfield 32, 3) := by decide +kernel
theorem d_M_shared_22 : decode c_M_shared 22 = .ok (.iload_n 3, 1) := by decide +kernel
theorem d_M_shared_23 : decode c_M_shared 23 = .ok (.baload, 1) := by decide +kernel
theorem d_M_shared_24 : decode c_M_shared 24 = .ok (.bastore, 1) := by decide +kernel
theorem d_M_shared_25 : decode c_M_shared 25 = .ok (.iinc 3 1, 3) := by decide +kernel
theorem d_M_shared_28 : decode c_M_shared 28 = .ok (.goto (-21), 3) := by decide +kernel
theorem d_M_shared_31 : decode c_M_shared 31 = .ok (.aload_n 0, 1) := by decide +kernel
theorem d_M_shared_32 : decode c_M_shared 32 = .ok (.iload_n 2, 1) := by decide +kernel
theorem d_M_shared_33 : decode c_M_shared 33 = .ok (.invokevirtual 79, 3) := by decide +kernel
theorem d_M_shared_36 : decode c_M_shared 36 = .ok (.iconst 0, 1) := by decide +kernel
theorem d_M_shared_37 : decode c_M_shared 37 = .ok (.istore_n 3, 1) := by decide +kernel
theorem d_M_shared_38 : decode c_M_shared 38 = .ok (.iconst 1, 1) := by decide +kernel
theorem d_M_shared_39 : decode c_M_shared 39 = .ok (.istore 4, 2) := by decide +kernel
theorem d_M_shared_41 : decode c_M_shared 41 = .ok (.iload 4, 2) := by decide +kernel
theorem d_M_shared_43 : decode c_M_shared 43 = .ok (.bipush 31, 2) := by decide +kernel
theorem d_M_shared_45 : decode c_M_shared 45 = .ok (.if_icmp .ge 32, 3) := by decide +kernel
theorem d_M_shared_48 : decode c_M_shared 48 = .ok (.aload_n 0, 1) := by decide +kernel
theorem d_M_shared_49 : decode c_M_shared 49 = .ok (.getfield 32, 3) := by decide +kernel
theorem d_M_shared_52 : decode c_M_shared 52 = .ok (.iload 4, 2) := by decide +kernel
theorem d_M_shared_54 : decode c_M_shared 54 = .ok (.baload, 1) := by decide +kernel
theorem d_M_shared_55 : decode c_M_shared 55 = .ok (.ifCond .eq 16, 3) := by decide +kernel
theorem d_M_shared_58 : decode c_M_shared 58 = .ok (.aload_n 0, 1) := by decide +kernel
theorem d_M_shared_59 : decode c_M_shared 59 = .ok (.getfield 35, 3) := by decide +kernel
theorem d_M_shared_62 : decode c_M_shared 62 = .ok (.iload 4, 2) := by decide +kernel
theorem d_M_shared_64 : decode c_M_shared 64 = .ok (.baload, 1) := by decide +kernel
theorem d_M_shared_65 : decode c_M_shared 65 = .ok (.ifCond .eq 6, 3) := by decide +kernel
theorem d_M_shared_68 : decode c_M_shared 68 = .ok (.iload 4, 2) := by decide +kernel
theorem d_M_shared_70 : decode c_M_shared 70 = .ok (.istore_n 3, 1) := by decide +kernel
theorem d_M_shared_71 : decode c_M_shared 71 = .ok (.iinc 4 1, 3) := by decide +kernel
theorem d_M_shared_74 : decode c_M_shared 74 = .ok (.goto (-33), 3) := by decide +kernel
theorem d_M_shared_77 : decode c_M_shared 77 = .ok (.iload_n 3, 1) := by decide +kernel
theorem d_M_shared_78 : decode c_M_shared 78 = .ok (.ireturn, 1) := by decide +kernel
theorem d_M_mix_0 : decode c_M_mix 0 = .ok (.iconst 0, 1) := by decide +kernel
theorem d_M_mix_1 : decode c_M_mix 1 = .ok (.istore 5, 2) := by decide +kernel
theorem d_M_mix_3 : decode c_M_mix 3 = .ok (.iconst 0, 1) := by decide +kernel
theorem d_M_mix_4 : decode c_M_mix 4 = .ok (.istore 6, 2) := by decide +kernel
theorem d_M_mix_6 : decode c_M_mix 6 = .ok (.iload 6, 2) := by decide +kernel
theorem d_M_mix_8 : decode c_M_mix 8 = .ok (.bipush 16, 2) := by decide +kernel
theorem d_M_mix_10 : decode c_M_mix 10 = .ok (.if_icmp .ge 126, 3) := by decide +kernel
theorem d_M_mix_13 : decode c_M_mix 13 = .ok (.aload_n 0, 1) := by decide +kernel
theorem d_M_mix_14 : decode c_M_mix 14 = .ok (.getfield 7, 3) := by decide +kernel
theorem d_M_mix_17 : decode c_M_mix 17 = .ok (.bipush 16, 2) := by decide +kernel
theorem d_M_mix_19 : decode c_M_mix 19 = .ok (.iload_n 1, 1) := by decide +kernel
theorem d_M_mix_20 : decode c_M_mix 20 = .ok (.imul, 1) := by decide +kernel
theorem d_M_mix_21 : decode c_M_mix 21 = .ok (.iload 6, 2) := by decide +kernel
theorem d_M_mix_23 : decode c_M_mix 23 = .ok (.iadd, 1) := by decide +kernel
theorem d_M_mix_24 : decode c_M_mix 24 = .ok (.iaload, 1) := by decide +kernel
theorem d_M_mix_25 : decode c_M_mix 25 = .ok (.istore 7, 2) := by decide +kernel
theorem d_M_mix_27 : decode c_M_mix 27 = .ok (.aload_n 0, 1) := by decide +kernel
theorem d_M_mix_28 : decode c_M_mix 28 = .ok (.getfield 7, 3) := by decide +kernel
theorem d_M_mix_31 : decode c_M_mix 31 = .ok (.bipush 16, 2) := by decide +kernel
theorem d_M_mix_33 : decode c_M_mix 33 = .ok (.iload_n 2, 1) := by decide +kernel
theorem d_M_mix_34 : decode c_M_mix 34 = .ok (.imul, 1) := by decide +kernel
theorem d_M_mix_35 : decode c_M_mix 35 = .ok (.iload 6, 2) := by decide +kernel
theorem d_M_mix_37 : decode c_M_mix 37 = .ok (.iadd, 1) := by decide +kernel
theorem d_M_mix_38 : decode c_M_mix 38 = .ok (.iaload, 1) := by decide +kernel
theorem d_M_mix_39 : decode c_M_mix 39 = .ok (.istore 8, 2) := by decide +kernel
theorem d_M_mix_41 : decode c_M_mix 41 = .ok (.aload_n 0, 1) := by decide +kernel
theorem d_M_mix_42 : decode c_M_mix 42 = .ok (.getfield 7, 3) := by decide +kernel
theorem d_M_mix_45 : decode c_M_mix 45 = .ok (.bipush 16, 2) := by decide +kernel
theorem d_M_mix_47 : decode c_M_mix 47 = .ok (.iload_n 3, 1) := by decide +kernel
theorem d_M_mix_48 : decode c_M_mix 48 = .ok (.imul, 1) := by decide +kernel
theorem d_M_mix_49 : decode c_M_mix 49 = .ok (.iload 6, 2) := by decide +kernel
theorem d_M_mix_51 : decode c_M_mix 51 = .ok (.iadd, 1) := by decide +kernel
theorem d_M_mix_52 : decode c_M_mix 52 = .ok (.iaload, 1) := by decide +kernel
theorem d_M_mix_53 : decode c_M_mix 53 = .ok (.istore 9, 2) := by decide +kernel
theorem d_M_mix_55 : decode c_M_mix 55 = .ok (.iload 7, 2) := by decide +kernel
theorem d_M_mix_57 : decode c_M_mix 57 = .ok (.iload 8, 2) := by decide +kernel
theorem d_M_mix_59 : decode c_M_mix 59 = .ok (.if_icmp .eq 21, 3) := by decide +kernel
theorem d_M_mix_62 : decode c_M_mix 62 = .ok (.iload 7, 2) := by decide +kernel
theorem d_M_mix_64 : decode c_M_mix 64 = .ok (.iload 9, 2) := by decide +kernel
theorem d_M_mix_66 : decode c_M_mix 66 = .ok (.if_icmp .eq 14, 3) := by decide +kernel
theorem d_M_mix_69 : decode c_M_mix 69 = .ok (.iload 8, 2) := by decide +kernel
theorem d_M_mix_71 : decode c_M_mix 71 = .ok (.iload 9, 2) := by decide +kernel
theorem d_M_mix_73 : decode c_M_mix 73 = .ok (.if_icmp .eq 7, 3) := by decide +kernel
theorem d_M_mix_76 : decode c_M_mix 76 = .ok (.iconst 1, 1) := by decide +kernel
theorem d_M_mix_77 : decode c_M_mix 77 = .ok (.goto 4, 3) := by decide +kernel
theorem d_M_mix_80 : decode c_M_mix 80 = .ok (.iconst 0, 1) := by decide +kernel
theorem d_M_mix_81 : decode c_M_mix 81 = .ok (.istore 10, 2) := by decide +kernel
theorem d_M_mix_83 : decode c_M_mix 83 = .ok (.aload_n 0, 1) := by decide +kernel
theorem d_M_mix_84 : decode c_M_mix 84 = .ok (.getfield 7, 3) := by decide +kernel
theorem d_M_mix_87 : decode c_M_mix 87 = .ok (.sipush 528, 3) := by decide +kernel
theorem d_M_mix_90 : decode c_M_mix 90 = .ok (.iload 6, 2) := by decide +kernel
theorem d_M_mix_92 : decode c_M_mix 92 = .ok (.iadd, 1) := by decide +kernel
theorem d_M_mix_93 : decode c_M_mix 93 = .ok (.iload 7, 2) := by decide +kernel
theorem d_M_mix_95 : decode c_M_mix 95 = .ok (.iload 9, 2) := by decide +kernel
theorem d_M_mix_97 : decode c_M_mix 97 = .ok (.if_icmp .ne 8, 3) := by decide +kernel
theorem d_M_mix_100 : decode c_M_mix 100 = .ok (.iload 8, 2) := by decide +kernel
theorem d_M_mix_102 : decode c_M_mix 102 = .ok (.goto 5, 3) := by decide +kernel
theorem d_M_mix_105 : decode c_M_mix 105 = .ok (.iload 7, 2) := by decide +kernel
theorem d_M_mix_107 : decode c_M_mix 107 = .ok (.iastore, 1) := by decide +kernel
theorem d_M_mix_108 : decode c_M_mix 108 = .ok (.iload 4, 2) := by decide +kernel
theorem d_M_mix_110 : decode c_M_mix 110 = .ok (.ifCond .eq 12, 3) := by decide +kernel
theorem d_M_mix_113 : decode c_M_mix 113 = .ok (.aload_n 0, 1) := by decide +kernel
theorem d_M_mix_114 : decode c_M_mix 114 = .ok (.getfield 26, 3) := by decide +kernel
theorem d_M_mix_117 : decode c_M_mix 117 = .ok (.iload 6, 2) := by decide +kernel
theorem d_M_mix_119 : decode c_M_mix 119 = .ok (.iload 10, 2) := by decide +kernel
theorem d_M_mix_121 : decode c_M_mix 121 = .ok (.bastore, 1) := by decide +kernel
theorem d_M_mix_122 : decode c_M_mix 122 = .ok (.iload 10, 2) := by decide +kernel
theorem d_M_mix_124 : decode c_M_mix 124 = .ok (.ifCond .eq 6, 3) := by decide +kernel
theorem d_M_mix_127 : decode c_M_mix 127 = .ok (.iinc 5 1, 3) := by decide +kernel
theorem d_M_mix_130 : decode c_M_mix 130 = .ok (.iinc 6 1, 3) := by decide +kernel
theorem d_M_mix_133 : decode c_M_mix 133 = .ok (.goto (-127), 3) := by decide +kernel
theorem d_M_mix_136 : decode c_M_mix 136 = .ok (.iload 5, 2) := by decide +kernel
theorem d_M_mix_138 : decode c_M_mix 138 = .ok (.ireturn, 1) := by decide +kernel
theorem d_M_merge_0 : decode c_M_merge 0 = .ok (.iload_n 1, 1) := by decide +kernel
theorem d_M_merge_1 : decode c_M_merge 1 = .ok (.iconst 0, 1) := by decide +kernel
theorem d_M_merge_2 : decode c_M_merge 2 = .ok (.iconst 5, 1) := by decide +kernel
theorem d_M_merge_3 : decode c_M_merge 3 = .ok (.invokestatic 42, 3) := by decide +kernel
theorem d_M_merge_6 : decode c_M_merge 6 = .ok (.ifCond .eq 26, 3) := by decide +kernel
theorem d_M_merge_9 : decode c_M_merge 9 = .ok (.aload_n 0, 1) := by decide +kernel
theorem d_M_merge_10 : decode c_M_merge 10 = .ok (.getfield 23, 3) := by decide +kernel
theorem d_M_merge_13 : decode c_M_merge 13 = .ok (.iload_n 1, 1) := by decide +kernel
theorem d_M_merge_14 : decode c_M_merge 14 = .ok (.iaload, 1) := by decide +kernel
theorem d_M_merge_15 : decode c_M_merge 15 = .ok (.ifCond .eq 17, 3) := by decide +kernel
theorem d_M_merge_18 : decode c_M_merge 18 = .ok (.aload_n 0, 1) := by decide +kernel
theorem d_M_merge_19 : decode c_M_merge 19 = .ok (.invokevirtual 54, 3) := by decide +kernel
theorem d_M_merge_22 : decode c_M_merge 22 = .ok (.ifCond .eq 10, 3) := by decide +kernel
theorem d_M_merge_25 : decode c_M_merge 25 = .ok (.aload_n 0, 1) := by decide +kernel
theorem d_M_merge_26 : decode c_M_merge 26 = .ok (.getfield 64, 3) := by decide +kernel
theorem d_M_merge_29 : decode c_M_merge 29 = .ok (.ifCond .le 5, 3) := by decide +kernel
theorem d_M_merge_32 : decode c_M_merge 32 = .ok (.iconst (-1), 1) := by decide +kernel
theorem d_M_merge_33 : decode c_M_merge 33 = .ok (.ireturn, 1) := by decide +kernel
theorem d_M_merge_34 : decode c_M_merge 34 = .ok (.aload_n 0, 1) := by decide +kernel
theorem d_M_merge_35 : decode c_M_merge 35 = .ok (.invokevirtual 71, 3) := by decide +kernel
theorem d_M_merge_38 : decode c_M_merge 38 = .ok (.ifCond .ne 6, 3) := by decide +kernel
theorem d_M_merge_41 : decode c_M_merge 41 = .ok (.bipush (-4), 2) := by decide +kernel
theorem d_M_merge_43 : decode c_M_merge 43 = .ok (.ireturn, 1) := by decide +kernel
theorem d_M_merge_44 : decode c_M_merge 44 = .ok (.aload_n 0, 1) := by decide +kernel
theorem d_M_merge_45 : decode c_M_merge 45 = .ok (.getfield 23, 3) := by decide +kernel
theorem d_M_merge_48 : decode c_M_merge 48 = .ok (.iload_n 1, 1) := by decide +kernel
theorem d_M_merge_49 : decode c_M_merge 49 = .ok (.iaload, 1) := by decide +kernel
theorem d_M_merge_50 : decode c_M_merge 50 = .ok (.istore_n 2, 1) := by decide +kernel
theorem d_M_merge_51 : decode c_M_merge 51 = .ok (.aload_n 0, 1) := by decide +kernel
theorem d_M_merge_52 : decode c_M_merge 52 = .ok (.aload_n 0, 1) := by decide +kernel
theorem d_M_merge_53 : decode c_M_merge 53 = .ok (.invokevirtual 54, 3) := by decide +kernel
theorem d_M_merge_56 : decode c_M_merge 56 = .ok (.iload_n 2, 1) := by decide +kernel
theorem d_M_merge_57 : decode c_M_merge 57 = .ok (.invokevirtual 82, 3) := by decide +kernel
theorem d_M_merge_60 : decode c_M_merge 60 = .ok (.istore_n 3, 1) := by decide +kernel
theorem d_M_merge_61 : decode c_M_merge 61 = .ok (.iload_n 3, 1) := by decide +kernel
theorem d_M_merge_62 : decode c_M_merge 62 = .ok (.iload_n 2, 1) := by decide +kernel
theorem d_M_merge_63 : decode c_M_merge 63 = .ok (.if_icmp .ne 5, 3) := by decide +kernel
theorem d_M_merge_66 : decode c_M_merge 66 = .ok (.iconst 0, 1) := by decide +kernel
theorem d_M_merge_67 : decode c_M_merge 67 = .ok (.ireturn, 1) := by decide +kernel
theorem d_M_merge_68 : decode c_M_merge 68 = .ok (.iload_n 3, 1) := by decide +kernel
theorem d_M_merge_69 : decode c_M_merge 69 = .ok (.aload_n 0, 1) := by decide +kernel
theorem d_M_merge_70 : decode c_M_merge 70 = .ok (.invokevirtual 54, 3) := by decide +kernel
theorem d_M_merge_73 : decode c_M_merge 73 = .ok (.if_icmp .ne 20, 3) := by decide +kernel
theorem d_M_merge_76 : decode c_M_merge 76 = .ok (.aload_n 0, 1) := by decide +kernel
theorem d_M_merge_77 : decode c_M_merge 77 = .ok (.getfield 23, 3) := by decide +kernel
theorem d_M_merge_80 : decode c_M_merge 80 = .ok (.aload_n 0, 1) := by decide +kernel
theorem d_M_merge_81 : decode c_M_merge 81 = .ok (.getfield 38, 3) := by decide +kernel
theorem d_M_merge_84 : decode c_M_merge 84 = .ok (.iload_n 2, 1) := by decide +kernel
theorem d_M_merge_85 : decode c_M_merge 85 = .ok (.iastore, 1) := by decide +kernel
theorem d_M_merge_86 : decode c_M_merge 86 = .ok (.aload_n 0, 1) := by decide +kernel
theorem d_M_merge_87 : decode c_M_merge 87 = .ok (.iload_n 2, 1) := by decide +kernel
theorem d_M_merge_88 : decode c_M_merge 88 = .ok (.invokevirtual 75, 3) := by decide +kernel
theorem d_M_merge_91 : decode c_M_merge 91 = .ok (.iload_n 2, 1) := by decide +kernel
theorem d_M_merge_92 : decode c_M_merge 92 = .ok (.ireturn, 1) := by decide +kernel
theorem d_M_merge_93 : decode c_M_merge 93 = .ok (.aload_n 0, 1) := by decide +kernel
theorem d_M_merge_94 : decode c_M_merge 94 = .ok (.aload_n 0, 1) := by decide +kernel
theorem d_M_merge_95 : decode c_M_merge 95 = .ok (.invokevirtual 54, 3) := by decide +kernel
theorem d_M_merge_98 : decode c_M_merge 98 = .ok (.iload_n 2, 1) := by decide +kernel
theorem d_M_merge_99 : decode c_M_merge 99 = .ok (.iload_n 3, 1) := by decide +kernel
theorem d_M_merge_100 : decode c_M_merge 100 = .ok (.iconst 0, 1) := by decide +kernel
theorem d_M_merge_101 : decode c_M_merge 101 = .ok (.invokevirtual 86, 3) := by decide +kernel
theorem d_M_merge_104 : decode c_M_merge 104 = .ok (.istore 4, 2) := by decide +kernel
theorem d_M_merge_106 : decode c_M_merge 106 = .ok (.iload 4, 2) := by decide +kernel
theorem d_M_merge_108 : decode c_M_merge 108 = .ok (.ifCond .ne 40, 3) := by decide +kernel
theorem d_M_merge_111 : decode c_M_merge 111 = .ok (.aload_n 0, 1) := by decide +kernel
theorem d_M_merge_112 : decode c_M_merge 112 = .ok (.getfield 58, 3) := by decide +kernel
theorem d_M_merge_115 : decode c_M_merge 115 = .ok (.bipush 30, 2) := by decide +kernel
theorem d_M_merge_117 : decode c_M_merge 117 = .ok (.if_icmp .ne 6, 3) := by decide +kernel
theorem d_M_merge_120 : decode c_M_merge 120 = .ok (.bipush (-2), 2) := by decide +kernel
theorem d_M_merge_122 : decode c_M_merge 122 = .ok (.ireturn, 1) := by decide +kernel
theorem d_M_merge_123 : decode c_M_merge 123 = .ok (.aload_n 0, 1) := by decide +kernel
theorem d_M_merge_124 : decode c_M_merge 124 = .ok (.bipush 33, 2) := by decide +kernel
theorem d_M_merge_126 : decode c_M_merge 126 = .ok (.aload_n 0, 1) := by decide +kernel
theorem d_M_merge_127 : decode c_M_merge 127 = .ok (.invokevirtual 54, 3) := by decide +kernel
theorem d_M_merge_130 : decode c_M_merge 130 = .ok (.iload_n 2, 1) := by decide +kernel
theorem d_M_merge_131 : decode c_M_merge 131 = .ok (.invokevirtual 67, 3) := by decide +kernel
theorem d_M_merge_134 : decode c_M_merge 134 = .ok (.pop, 1) := by decide +kernel
theorem d_M_merge_135 : decode c_M_merge 135 = .ok (.aload_n 0, 1) := by decide +kernel
theorem d_M_merge_136 : decode c_M_merge 136 = .ok (.aload_n 0, 1) := by decide +kernel
theorem d_M_merge_137 : decode c_M_merge 137 = .ok (.invokevirtual 54, 3) := by decide +kernel
theorem d_M_merge_140 : decode c_M_merge 140 = .ok (.invokevirtual 75, 3) := by decide +kernel
theorem d_M_merge_143 : decode c_M_merge 143 = .ok (.aload_n 0, 1) := by decide +kernel
theorem d_M_merge_144 : decode c_M_merge 144 = .ok (.invokevirtual 54, 3) := by decide +kernel
theorem d_M_merge_147 : decode c_M_merge 147 = .ok (.ireturn, 1) := by decide +kernel
theorem d_M_merge_148 : decode c_M_merge 148 = .ok (.aload_n 0, 1) := by decide +kernel
theorem d_M_merge_149 : decode c_M_merge 149 = .ok (.aload_n 0, 1) := by decide +kernel
theorem d_M_merge_150 : decode c_M_merge 150 = .ok (.invokevirtual 54, 3) := by decide +kernel
theorem d_M_merge_153 : decode c_M_merge 153 = .ok (.iload_n 2, 1) := by decide +kernel
theorem d_M_merge_154 : decode c_M_merge 154 = .ok (.iload_n 3, 1) := by decide +kernel
theorem d_M_merge_155 : decode c_M_merge 155 = .ok (.iconst 1, 1) := by decide +kernel
theorem d_M_merge_156 : decode c_M_merge 156 = .ok (.invokevirtual 86, 3) := by decide +kernel
theorem d_M_merge_159 : decode c_M_merge 159 = .ok (.pop, 1) := by decide +kernel
theorem d_M_merge_160 : decode c_M_merge 160 = .ok (.aload_n 0, 1) := by decide +kernel
theorem d_M_merge_161 : decode c_M_merge 161 = .ok (.bipush 33, 2) := by decide +kernel
theorem d_M_merge_163 : decode c_M_merge 163 = .ok (.invokevirtual 75, 3) := by decide +kernel
theorem d_M_merge_166 : decode c_M_merge 166 = .ok (.aload_n 0, 1) := by decide +kernel
theorem d_M_merge_167 : decode c_M_merge 167 = .ok (.iload_n 2, 1) := by decide +kernel
theorem d_M_merge_168 : decode c_M_merge 168 = .ok (.putfield 64, 3) := by decide +kernel
theorem d_M_merge_171 : decode c_M_merge 171 = .ok (.bipush (-5), 2) := by decide +kernel
theorem d_M_merge_173 : decode c_M_merge 173 = .ok (.ireturn, 1) := by decide +kernel
theorem d_M_abort_0 : decode c_M_abort 0 = .ok (.aload_n 0, 1) := by decide +kernel
theorem d_M_abort_1 : decode c_M_abort 1 = .ok (.getfield 64, 3) := by decide +kernel
theorem d_M_abort_4 : decode c_M_abort 4 = .ok (.ifCond .ne 5, 3) := by decide +kernel
theorem d_M_abort_7 : decode c_M_abort 7 = .ok (.iconst (-1), 1) := by decide +kernel
theorem d_M_abort_8 : decode c_M_abort 8 = .ok (.ireturn, 1) := by decide +kernel
theorem d_M_abort_9 : decode c_M_abort 9 = .ok (.aload_n 0, 1) := by decide +kernel
theorem d_M_abort_10 : decode c_M_abort 10 = .ok (.iconst 0, 1) := by decide +kernel
theorem d_M_abort_11 : decode c_M_abort 11 = .ok (.putfield 64, 3) := by decide +kernel
theorem d_M_abort_14 : decode c_M_abort 14 = .ok (.iconst 0, 1) := by decide +kernel
theorem d_M_abort_15 : decode c_M_abort 15 = .ok (.istore_n 1, 1) := by decide +kernel
theorem d_M_abort_16 : decode c_M_abort 16 = .ok (.iload_n 1, 1) := by decide +kernel
theorem d_M_abort_17 : decode c_M_abort 17 = .ok (.bipush 16, 2) := by decide +kernel
theorem d_M_abort_19 : decode c_M_abort 19 = .ok (.if_icmp .ge 16, 3) := by decide +kernel
theorem d_M_abort_22 : decode c_M_abort 22 = .ok (.aload_n 0, 1) := by decide +kernel
theorem d_M_abort_23 : decode c_M_abort 23 = .ok (.getfield 26, 3) := by decide +kernel
theorem d_M_abort_26 : decode c_M_abort 26 = .ok (.iload_n 1, 1) := by decide +kernel
theorem d_M_abort_27 : decode c_M_abort 27 = .ok (.iconst 0, 1) := by decide +kernel
theorem d_M_abort_28 : decode c_M_abort 28 = .ok (.bastore, 1) := by decide +kernel
theorem d_M_abort_29 : decode c_M_abort 29 = .ok (.iinc 1 1, 3) := by decide +kernel
theorem d_M_abort_32 : decode c_M_abort 32 = .ok (.goto (-16), 3) := by decide +kernel
theorem d_M_abort_35 : decode c_M_abort 35 = .ok (.aload_n 0, 1) := by decide +kernel
theorem d_M_abort_36 : decode c_M_abort 36 = .ok (.aload_n 0, 1) := by decide +kernel
theorem d_M_abort_37 : decode c_M_abort 37 = .ok (.invokevirtual 54, 3) := by decide +kernel
theorem d_M_abort_40 : decode c_M_abort 40 = .ok (.invokevirtual 75, 3) := by decide +kernel
theorem d_M_abort_43 : decode c_M_abort 43 = .ok (.iconst 0, 1) := by decide +kernel
theorem d_M_abort_44 : decode c_M_abort 44 = .ok (.ireturn, 1) := by decide +kernel
theorem d_M_pick_0 : decode c_M_pick 0 = .ok (.aload_n 0, 1) := by decide +kernel
theorem d_M_pick_1 : decode c_M_pick 1 = .ok (.iload_n 1, 1) := by decide +kernel
theorem d_M_pick_2 : decode c_M_pick 2 = .ok (.invokevirtual 90, 3) := by decide +kernel
theorem d_M_pick_5 : decode c_M_pick 5 = .ok (.ifCond .eq 17, 3) := by decide +kernel
theorem d_M_pick_8 : decode c_M_pick 8 = .ok (.aload_n 0, 1) := by decide +kernel
theorem d_M_pick_9 : decode c_M_pick 9 = .ok (.invokevirtual 54, 3) := by decide +kernel
theorem d_M_pick_12 : decode c_M_pick 12 = .ok (.ifCond .eq 10, 3) := by decide +kernel
theorem d_M_pick_15 : decode c_M_pick 15 = .ok (.aload_n 0, 1) := by decide +kernel
theorem d_M_pick_16 : decode c_M_pick 16 = .ok (.getfield 64, 3) := by decide +kernel
theorem d_M_pick_19 : decode c_M_pick 19 = .ok (.ifCond .le 5, 3) := by decide +kernel
theorem d_M_pick_22 : decode c_M_pick 22 = .ok (.iconst (-1), 1) := by decide +kernel
theorem d_M_pick_23 : decode c_M_pick 23 = .ok (.ireturn, 1) := by decide +kernel
theorem d_M_pick_24 : decode c_M_pick 24 = .ok (.aload_n 0, 1) := by decide +kernel
theorem d_M_pick_25 : decode c_M_pick 25 = .ok (.invokevirtual 71, 3) := by decide +kernel
theorem d_M_pick_28 : decode c_M_pick 28 = .ok (.ifCond .ne 6, 3) := by decide +kernel
theorem d_M_pick_31 : decode c_M_pick 31 = .ok (.bipush (-4), 2) := by decide +kernel
theorem d_M_pick_33 : decode c_M_pick 33 = .ok (.ireturn, 1) := by decide +kernel
theorem d_M_pick_34 : decode c_M_pick 34 = .ok (.aload_n 0, 1) := by decide +kernel
theorem d_M_pick_35 : decode c_M_pick 35 = .ok (.aload_n 0, 1) := by decide +kernel
theorem d_M_pick_36 : decode c_M_pick 36 = .ok (.invokevirtual 54, 3) := by decide +kernel
theorem d_M_pick_39 : decode c_M_pick 39 = .ok (.iload_n 1, 1) := by decide +kernel
theorem d_M_pick_40 : decode c_M_pick 40 = .ok (.aload_n 0, 1) := by decide +kernel
theorem d_M_pick_41 : decode c_M_pick 41 = .ok (.getfield 17, 3) := by decide +kernel
theorem d_M_pick_44 : decode c_M_pick 44 = .ok (.iload_n 1, 1) := by decide +kernel
theorem d_M_pick_45 : decode c_M_pick 45 = .ok (.iaload, 1) := by decide +kernel
theorem d_M_pick_46 : decode c_M_pick 46 = .ok (.iconst 0, 1) := by decide +kernel
theorem d_M_pick_47 : decode c_M_pick 47 = .ok (.invokevirtual 86, 3) := by decide +kernel
theorem d_M_pick_50 : decode c_M_pick 50 = .ok (.ifCond .le 6, 3) := by decide +kernel
theorem d_M_pick_53 : decode c_M_pick 53 = .ok (.bipush (-5), 2) := by decide +kernel
theorem d_M_pick_55 : decode c_M_pick 55 = .ok (.ireturn, 1) := by decide +kernel
theorem d_M_pick_56 : decode c_M_pick 56 = .ok (.aload_n 0, 1) := by decide +kernel
theorem d_M_pick_57 : decode c_M_pick 57 = .ok (.bipush 33, 2) := by decide +kernel
theorem d_M_pick_59 : decode c_M_pick 59 = .ok (.aload_n 0, 1) := by decide +kernel
theorem d_M_pick_60 : decode c_M_pick 60 = .ok (.invokevirtual 54, 3) := by decide +kernel
theorem d_M_pick_63 : decode c_M_pick 63 = .ok (.invokevirtual 50, 3) := by decide +kernel
theorem d_M_pick_66 : decode c_M_pick 66 = .ok (.ifCond .eq 6, 3) := by decide +kernel
theorem d_M_pick_69 : decode c_M_pick 69 = .ok (.bipush (-3), 2) := by decide +kernel
theorem d_M_pick_71 : decode c_M_pick 71 = .ok (.ireturn, 1) := by decide +kernel
theorem d_M_pick_72 : decode c_M_pick 72 = .ok (.aload_n 0, 1) := by decide +kernel
theorem d_M_pick_73 : decode c_M_pick 73 = .ok (.getfield 58, 3) := by decide +kernel
theorem d_M_pick_76 : decode c_M_pick 76 = .ok (.bipush 30, 2) := by decide +kernel
theorem d_M_pick_78 : decode c_M_pick 78 = .ok (.if_icmp .ne 6, 3) := by decide +kernel
theorem d_M_pick_81 : decode c_M_pick 81 = .ok (.bipush (-2), 2) := by decide +kernel
theorem d_M_pick_83 : decode c_M_pick 83 = .ok (.ireturn, 1) := by decide +kernel
theorem d_M_pick_84 : decode c_M_pick 84 = .ok (.aload_n 0, 1) := by decide +kernel
theorem d_M_pick_85 : decode c_M_pick 85 = .ok (.bipush 33, 2) := by decide +kernel
theorem d_M_pick_87 : decode c_M_pick 87 = .ok (.aload_n 0, 1) := by decide +kernel
theorem d_M_pick_88 : decode c_M_pick 88 = .ok (.invokevirtual 54, 3) := by decide +kernel
theorem d_M_pick_91 : decode c_M_pick 91 = .ok (.iconst 0, 1) := by decide +kernel
theorem d_M_pick_92 : decode c_M_pick 92 = .ok (.invokevirtual 67, 3) := by decide +kernel
theorem d_M_pick_95 : decode c_M_pick 95 = .ok (.pop, 1) := by decide +kernel
theorem d_M_pick_96 : decode c_M_pick 96 = .ok (.aload_n 0, 1) := by decide +kernel
theorem d_M_pick_97 : decode c_M_pick 97 = .ok (.aload_n 0, 1) := by decide +kernel
theorem d_M_pick_98 : decode c_M_pick 98 = .ok (.invokevirtual 54, 3) := by decide +kernel
theorem d_M_pick_101 : decode c_M_pick 101 = .ok (.invokevirtual 75, 3) := by decide +kernel
theorem d_M_pick_104 : decode c_M_pick 104 = .ok (.aload_n 0, 1) := by decide +kernel
theorem d_M_pick_105 : decode c_M_pick 105 = .ok (.invokevirtual 54, 3) := by decide +kernel
theorem d_M_pick_108 : decode c_M_pick 108 = .ok (.ireturn, 1) := by decide +kernel
theorem d_M_reset_0 : decode c_M_reset 0 = .ok (.aload_n 0, 1) := by decide +kernel
theorem d_M_reset_1 : decode c_M_reset 1 = .ok (.iload_n 1, 1) := by decide +kernel
theorem d_M_reset_2 : decode c_M_reset 2 = .ok (.invokevirtual 90, 3) := by decide +kernel
theorem d_M_reset_5 : decode c_M_reset 5 = .ok (.ifCond .eq 10, 3) := by decide +kernel
theorem d_M_reset_8 : decode c_M_reset 8 = .ok (.aload_n 0, 1) := by decide +kernel
theorem d_M_reset_9 : decode c_M_reset 9 = .ok (.getfield 64, 3) := by decide +kernel
theorem d_M_reset_12 : decode c_M_reset 12 = .ok (.ifCond .le 5, 3) := by decide +kernel
theorem d_M_reset_15 : decode c_M_reset 15 = .ok (.iconst (-1), 1) := by decide +kernel
theorem d_M_reset_16 : decode c_M_reset 16 = .ok (.ireturn, 1) := by decide +kernel
theorem d_M_reset_17 : decode c_M_reset 17 = .ok (.aload_n 0, 1) := by decide +kernel
theorem d_M_reset_18 : decode c_M_reset 18 = .ok (.getfield 23, 3) := by decide +kernel
theorem d_M_reset_21 : decode c_M_reset 21 = .ok (.aload_n 0, 1) := by decide +kernel
theorem d_M_reset_22 : decode c_M_reset 22 = .ok (.getfield 38, 3) := by decide +kernel
theorem d_M_reset_25 : decode c_M_reset 25 = .ok (.iload_n 1, 1) := by decide +kernel
theorem d_M_reset_26 : decode c_M_reset 26 = .ok (.iastore, 1) := by decide +kernel
theorem d_M_reset_27 : decode c_M_reset 27 = .ok (.aload_n 0, 1) := by decide +kernel
theorem d_M_reset_28 : decode c_M_reset 28 = .ok (.iload_n 1, 1) := by decide +kernel
theorem d_M_reset_29 : decode c_M_reset 29 = .ok (.invokevirtual 75, 3) := by decide +kernel
theorem d_M_reset_32 : decode c_M_reset 32 = .ok (.iconst 0, 1) := by decide +kernel
theorem d_M_reset_33 : decode c_M_reset 33 = .ok (.ireturn, 1) := by decide +kernel
theorem d_M_remove_0 : decode c_M_remove 0 = .ok (.iload_n 1, 1) := by decide +kernel
theorem d_M_remove_1 : decode c_M_remove 1 = .ok (.iconst 0, 1) := by decide +kernel
theorem d_M_remove_2 : decode c_M_remove 2 = .ok (.iconst 5, 1) := by decide +kernel
theorem d_M_remove_3 : decode c_M_remove 3 = .ok (.invokestatic 42, 3) := by decide +kernel
theorem d_M_remove_6 : decode c_M_remove 6 = .ok (.ifCond .eq 20, 3) := by decide +kernel
theorem d_M_remove_9 : decode c_M_remove 9 = .ok (.aload_n 0, 1) := by decide +kernel
theorem d_M_remove_10 : decode c_M_remove 10 = .ok (.getfield 23, 3) := by decide +kernel
theorem d_M_remove_13 : decode c_M_remove 13 = .ok (.iload_n 1, 1) := by decide +kernel
theorem d_M_remove_14 : decode c_M_remove 14 = .ok (.iaload, 1) := by decide +kernel
theorem d_M_remove_15 : decode c_M_remove 15 = .ok (.ifCond .eq 11, 3) := by decide +kernel
theorem d_M_remove_18 : decode c_M_remove 18 = .ok (.iload_n 1, 1) := by decide +kernel
theorem d_M_remove_19 : decode c_M_remove 19 = .ok (.aload_n 0, 1) := by decide +kernel
theorem d_M_remove_20 : decode c_M_remove 20 = .ok (.getfield 38, 3) := by decide +kernel
theorem d_M_remove_23 : decode c_M_remove 23 = .ok (.if_icmp .ne 5, 3) := by decide +kernel
theorem d_M_remove_26 : decode c_M_remove 26 = .ok (.iconst (-1), 1) := by decide +kernel
theorem d_M_remove_27 : decode c_M_remove 27 = .ok (.ireturn, 1) := by decide +kernel
theorem d_M_remove_28 : decode c_M_remove 28 = .ok (.aload_n 0, 1) := by decide +kernel
theorem d_M_remove_29 : decode c_M_remove 29 = .ok (.getfield 23, 3) := by decide +kernel
theorem d_M_remove_32 : decode c_M_remove 32 = .ok (.iload_n 1, 1) := by decide +kernel
theorem d_M_remove_33 : decode c_M_remove 33 = .ok (.iconst 0, 1) := by decide +kernel
theorem d_M_remove_34 : decode c_M_remove 34 = .ok (.iastore, 1) := by decide +kernel
theorem d_M_remove_35 : decode c_M_remove 35 = .ok (.iconst 0, 1) := by decide +kernel
theorem d_M_remove_36 : decode c_M_remove 36 = .ok (.ireturn, 1) := by decide +kernel
theorem d_M_objects_0 : decode c_M_objects 0 = .ok (.aload_n 0, 1) := by decide +kernel
theorem d_M_objects_1 : decode c_M_objects 1 = .ok (.iconst 0, 1) := by decide +kernel
theorem d_M_objects_2 : decode c_M_objects 2 = .ok (.invokevirtual 94, 3) := by decide +kernel
theorem d_M_objects_5 : decode c_M_objects 5 = .ok (.aload_n 0, 1) := by decide +kernel
theorem d_M_objects_6 : decode c_M_objects 6 = .ok (.iconst 1, 1) := by decide +kernel
theorem d_M_objects_7 : decode c_M_objects 7 = .ok (.invokevirtual 94, 3) := by decide +kernel
theorem d_M_objects_10 : decode c_M_objects 10 = .ok (.iadd, 1) := by decide +kernel
theorem d_M_objects_11 : decode c_M_objects 11 = .ok (.aload_n 0, 1) := by decide +kernel
theorem d_M_objects_12 : decode c_M_objects 12 = .ok (.iconst 2, 1) := by decide +kernel
theorem d_M_objects_13 : decode c_M_objects 13 = .ok (.invokevirtual 94, 3) := by decide +kernel
theorem d_M_objects_16 : decode c_M_objects 16 = .ok (.iadd, 1) := by decide +kernel
theorem d_M_objects_17 : decode c_M_objects 17 = .ok (.aload_n 0, 1) := by decide +kernel
theorem d_M_objects_18 : decode c_M_objects 18 = .ok (.iconst 3, 1) := by decide +kernel
theorem d_M_objects_19 : decode c_M_objects 19 = .ok (.invokevirtual 94, 3) := by decide +kernel
theorem d_M_objects_22 : decode c_M_objects 22 = .ok (.iadd, 1) := by decide +kernel
theorem d_M_objects_23 : decode c_M_objects 23 = .ok (.ireturn, 1) := by decide +kernel
theorem d_M_sweep_0 : decode c_M_sweep 0 = .ok (.aload_n 0, 1) := by decide +kernel
theorem d_M_sweep_1 : decode c_M_sweep 1 = .ok (.invokevirtual 98, 3) := by decide +kernel
theorem d_M_sweep_4 : decode c_M_sweep 4 = .ok (.istore_n 1, 1) := by decide +kernel
theorem d_M_sweep_5 : decode c_M_sweep 5 = .ok (.iconst 0, 1) := by decide +kernel
theorem d_M_sweep_6 : decode c_M_sweep 6 = .ok (.istore_n 2, 1) := by decide +kernel
theorem d_M_sweep_7 : decode c_M_sweep 7 = .ok (.iload_n 2, 1) := by decide +kernel
theorem d_M_sweep_8 : decode c_M_sweep 8 = .ok (.bipush 31, 2) := by decide +kernel
theorem d_M_sweep_10 : decode c_M_sweep 10 = .ok (.if_icmp .ge 16, 3) := by decide +kernel
theorem d_M_sweep_13 : decode c_M_sweep 13 = .ok (.aload_n 0, 1) := by decide +kernel
theorem d_M_sweep_14 : decode c_M_sweep 14 = .ok (.getfield 35, 3) := by decide +kernel
