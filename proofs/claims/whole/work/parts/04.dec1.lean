theorem d_D_merge_33 : decode c_D_merge 33 = .ok (.ireturn, 1) := by decide +kernel
theorem d_D_merge_34 : decode c_D_merge 34 = .ok (.aload_n 0, 1) := by decide +kernel
theorem d_D_merge_35 : decode c_D_merge 35 = .ok (.getfield 26, 3) := by decide +kernel
theorem d_D_merge_38 : decode c_D_merge 38 = .ok (.iload_n 1, 1) := by decide +kernel
theorem d_D_merge_39 : decode c_D_merge 39 = .ok (.iaload, 1) := by decide +kernel
theorem d_D_merge_40 : decode c_D_merge 40 = .ok (.istore_n 2, 1) := by decide +kernel
theorem d_D_merge_41 : decode c_D_merge 41 = .ok (.aload_n 0, 1) := by decide +kernel
theorem d_D_merge_42 : decode c_D_merge 42 = .ok (.getfield 10, 3) := by decide +kernel
theorem d_D_merge_45 : decode c_D_merge 45 = .ok (.aload_n 0, 1) := by decide +kernel
theorem d_D_merge_46 : decode c_D_merge 46 = .ok (.invokevirtual 61, 3) := by decide +kernel
theorem d_D_merge_49 : decode c_D_merge 49 = .ok (.iload_n 2, 1) := by decide +kernel
theorem d_D_merge_50 : decode c_D_merge 50 = .ok (.invokevirtual 82, 3) := by decide +kernel
theorem d_D_merge_53 : decode c_D_merge 53 = .ok (.ifCond .eq 5, 3) := by decide +kernel
theorem d_D_merge_56 : decode c_D_merge 56 = .ok (.iconst 0, 1) := by decide +kernel
theorem d_D_merge_57 : decode c_D_merge 57 = .ok (.ireturn, 1) := by decide +kernel
theorem d_D_merge_58 : decode c_D_merge 58 = .ok (.aload_n 0, 1) := by decide +kernel
theorem d_D_merge_59 : decode c_D_merge 59 = .ok (.getfield 10, 3) := by decide +kernel
theorem d_D_merge_62 : decode c_D_merge 62 = .ok (.iload_n 2, 1) := by decide +kernel
theorem d_D_merge_63 : decode c_D_merge 63 = .ok (.aload_n 0, 1) := by decide +kernel
theorem d_D_merge_64 : decode c_D_merge 64 = .ok (.invokevirtual 61, 3) := by decide +kernel
theorem d_D_merge_67 : decode c_D_merge 67 = .ok (.invokevirtual 82, 3) := by decide +kernel
theorem d_D_merge_70 : decode c_D_merge 70 = .ok (.ifCond .eq 9, 3) := by decide +kernel
theorem d_D_merge_73 : decode c_D_merge 73 = .ok (.aload_n 0, 1) := by decide +kernel
theorem d_D_merge_74 : decode c_D_merge 74 = .ok (.iload_n 2, 1) := by decide +kernel
theorem d_D_merge_75 : decode c_D_merge 75 = .ok (.invokevirtual 78, 3) := by decide +kernel
theorem d_D_merge_78 : decode c_D_merge 78 = .ok (.ireturn, 1) := by decide +kernel
theorem d_D_merge_79 : decode c_D_merge 79 = .ok (.aload_n 0, 1) := by decide +kernel
theorem d_D_merge_80 : decode c_D_merge 80 = .ok (.iload_n 2, 1) := by decide +kernel
theorem d_D_merge_81 : decode c_D_merge 81 = .ok (.invokevirtual 86, 3) := by decide +kernel
theorem d_D_merge_84 : decode c_D_merge 84 = .ok (.ireturn, 1) := by decide +kernel
theorem d_D_abort_0 : decode c_D_abort 0 = .ok (.aload_n 0, 1) := by decide +kernel
theorem d_D_abort_1 : decode c_D_abort 1 = .ok (.getfield 47, 3) := by decide +kernel
theorem d_D_abort_4 : decode c_D_abort 4 = .ok (.ifCond .ne 5, 3) := by decide +kernel
theorem d_D_abort_7 : decode c_D_abort 7 = .ok (.iconst (-1), 1) := by decide +kernel
theorem d_D_abort_8 : decode c_D_abort 8 = .ok (.ireturn, 1) := by decide +kernel
theorem d_D_abort_9 : decode c_D_abort 9 = .ok (.aload_n 0, 1) := by decide +kernel
theorem d_D_abort_10 : decode c_D_abort 10 = .ok (.iconst 0, 1) := by decide +kernel
theorem d_D_abort_11 : decode c_D_abort 11 = .ok (.putfield 47, 3) := by decide +kernel
theorem d_D_abort_14 : decode c_D_abort 14 = .ok (.aload_n 0, 1) := by decide +kernel
theorem d_D_abort_15 : decode c_D_abort 15 = .ok (.iconst 0, 1) := by decide +kernel
theorem d_D_abort_16 : decode c_D_abort 16 = .ok (.putfield 43, 3) := by decide +kernel
theorem d_D_abort_19 : decode c_D_abort 19 = .ok (.aload_n 0, 1) := by decide +kernel
theorem d_D_abort_20 : decode c_D_abort 20 = .ok (.aload_n 0, 1) := by decide +kernel
theorem d_D_abort_21 : decode c_D_abort 21 = .ok (.invokevirtual 61, 3) := by decide +kernel
theorem d_D_abort_24 : decode c_D_abort 24 = .ok (.invokevirtual 78, 3) := by decide +kernel
theorem d_D_abort_27 : decode c_D_abort 27 = .ok (.pop, 1) := by decide +kernel
theorem d_D_abort_28 : decode c_D_abort 28 = .ok (.iconst 0, 1) := by decide +kernel
theorem d_D_abort_29 : decode c_D_abort 29 = .ok (.ireturn, 1) := by decide +kernel
theorem d_D_pick_0 : decode c_D_pick 0 = .ok (.aload_n 0, 1) := by decide +kernel
theorem d_D_pick_1 : decode c_D_pick 1 = .ok (.getfield 10, 3) := by decide +kernel
theorem d_D_pick_4 : decode c_D_pick 4 = .ok (.iload_n 1, 1) := by decide +kernel
theorem d_D_pick_5 : decode c_D_pick 5 = .ok (.invokevirtual 89, 3) := by decide +kernel
theorem d_D_pick_8 : decode c_D_pick 8 = .ok (.ifCond .eq 17, 3) := by decide +kernel
theorem d_D_pick_11 : decode c_D_pick 11 = .ok (.aload_n 0, 1) := by decide +kernel
theorem d_D_pick_12 : decode c_D_pick 12 = .ok (.invokevirtual 61, 3) := by decide +kernel
theorem d_D_pick_15 : decode c_D_pick 15 = .ok (.ifCond .eq 10, 3) := by decide +kernel
theorem d_D_pick_18 : decode c_D_pick 18 = .ok (.aload_n 0, 1) := by decide +kernel
theorem d_D_pick_19 : decode c_D_pick 19 = .ok (.getfield 47, 3) := by decide +kernel
theorem d_D_pick_22 : decode c_D_pick 22 = .ok (.ifCond .eq 5, 3) := by decide +kernel
theorem d_D_pick_25 : decode c_D_pick 25 = .ok (.iconst (-1), 1) := by decide +kernel
theorem d_D_pick_26 : decode c_D_pick 26 = .ok (.ireturn, 1) := by decide +kernel
theorem d_D_pick_27 : decode c_D_pick 27 = .ok (.aload_n 0, 1) := by decide +kernel
theorem d_D_pick_28 : decode c_D_pick 28 = .ok (.invokevirtual 75, 3) := by decide +kernel
theorem d_D_pick_31 : decode c_D_pick 31 = .ok (.ifCond .ne 6, 3) := by decide +kernel
theorem d_D_pick_34 : decode c_D_pick 34 = .ok (.bipush (-4), 2) := by decide +kernel
theorem d_D_pick_36 : decode c_D_pick 36 = .ok (.ireturn, 1) := by decide +kernel
theorem d_D_pick_37 : decode c_D_pick 37 = .ok (.aload_n 0, 1) := by decide +kernel
theorem d_D_pick_38 : decode c_D_pick 38 = .ok (.iload_n 1, 1) := by decide +kernel
theorem d_D_pick_39 : decode c_D_pick 39 = .ok (.aload_n 0, 1) := by decide +kernel
theorem d_D_pick_40 : decode c_D_pick 40 = .ok (.getfield 10, 3) := by decide +kernel
theorem d_D_pick_43 : decode c_D_pick 43 = .ok (.iload_n 1, 1) := by decide +kernel
theorem d_D_pick_44 : decode c_D_pick 44 = .ok (.iconst 0, 1) := by decide +kernel
theorem d_D_pick_45 : decode c_D_pick 45 = .ok (.invokevirtual 92, 3) := by decide +kernel
theorem d_D_pick_48 : decode c_D_pick 48 = .ok (.invokevirtual 96, 3) := by decide +kernel
theorem d_D_pick_51 : decode c_D_pick 51 = .ok (.ifCond .eq 6, 3) := by decide +kernel
theorem d_D_pick_54 : decode c_D_pick 54 = .ok (.bipush (-5), 2) := by decide +kernel
theorem d_D_pick_56 : decode c_D_pick 56 = .ok (.ireturn, 1) := by decide +kernel
theorem d_D_pick_57 : decode c_D_pick 57 = .ok (.aload_n 0, 1) := by decide +kernel
theorem d_D_pick_58 : decode c_D_pick 58 = .ok (.aload_n 0, 1) := by decide +kernel
theorem d_D_pick_59 : decode c_D_pick 59 = .ok (.getfield 23, 3) := by decide +kernel
theorem d_D_pick_62 : decode c_D_pick 62 = .ok (.invokevirtual 50, 3) := by decide +kernel
theorem d_D_pick_65 : decode c_D_pick 65 = .ok (.ifCond .eq 6, 3) := by decide +kernel
theorem d_D_pick_68 : decode c_D_pick 68 = .ok (.bipush (-3), 2) := by decide +kernel
theorem d_D_pick_70 : decode c_D_pick 70 = .ok (.ireturn, 1) := by decide +kernel
theorem d_D_pick_71 : decode c_D_pick 71 = .ok (.aload_n 0, 1) := by decide +kernel
theorem d_D_pick_72 : decode c_D_pick 72 = .ok (.getfield 10, 3) := by decide +kernel
theorem d_D_pick_75 : decode c_D_pick 75 = .ok (.invokevirtual 54, 3) := by decide +kernel
theorem d_D_pick_78 : decode c_D_pick 78 = .ok (.ifCond .eq 6, 3) := by decide +kernel
theorem d_D_pick_81 : decode c_D_pick 81 = .ok (.bipush (-2), 2) := by decide +kernel
theorem d_D_pick_83 : decode c_D_pick 83 = .ok (.ireturn, 1) := by decide +kernel
theorem d_D_pick_84 : decode c_D_pick 84 = .ok (.aload_n 0, 1) := by decide +kernel
theorem d_D_pick_85 : decode c_D_pick 85 = .ok (.aload_n 0, 1) := by decide +kernel
theorem d_D_pick_86 : decode c_D_pick 86 = .ok (.getfield 10, 3) := by decide +kernel
theorem d_D_pick_89 : decode c_D_pick 89 = .ok (.aload_n 0, 1) := by decide +kernel
theorem d_D_pick_90 : decode c_D_pick 90 = .ok (.getfield 23, 3) := by decide +kernel
theorem d_D_pick_93 : decode c_D_pick 93 = .ok (.aload_n 0, 1) := by decide +kernel
theorem d_D_pick_94 : decode c_D_pick 94 = .ok (.invokevirtual 61, 3) := by decide +kernel
theorem d_D_pick_97 : decode c_D_pick 97 = .ok (.iconst 0, 1) := by decide +kernel
theorem d_D_pick_98 : decode c_D_pick 98 = .ok (.invokevirtual 65, 3) := by decide +kernel
theorem d_D_pick_101 : decode c_D_pick 101 = .ok (.invokevirtual 78, 3) := by decide +kernel
theorem d_D_pick_104 : decode c_D_pick 104 = .ok (.ireturn, 1) := by decide +kernel
theorem d_D_reset_0 : decode c_D_reset 0 = .ok (.aload_n 0, 1) := by decide +kernel
theorem d_D_reset_1 : decode c_D_reset 1 = .ok (.getfield 10, 3) := by decide +kernel
theorem d_D_reset_4 : decode c_D_reset 4 = .ok (.iload_n 1, 1) := by decide +kernel
theorem d_D_reset_5 : decode c_D_reset 5 = .ok (.invokevirtual 89, 3) := by decide +kernel
theorem d_D_reset_8 : decode c_D_reset 8 = .ok (.ifCond .eq 10, 3) := by decide +kernel
theorem d_D_reset_11 : decode c_D_reset 11 = .ok (.aload_n 0, 1) := by decide +kernel
theorem d_D_reset_12 : decode c_D_reset 12 = .ok (.getfield 47, 3) := by decide +kernel
theorem d_D_reset_15 : decode c_D_reset 15 = .ok (.ifCond .eq 5, 3) := by decide +kernel
theorem d_D_reset_18 : decode c_D_reset 18 = .ok (.iconst (-1), 1) := by decide +kernel
theorem d_D_reset_19 : decode c_D_reset 19 = .ok (.ireturn, 1) := by decide +kernel
theorem d_D_reset_20 : decode c_D_reset 20 = .ok (.aload_n 0, 1) := by decide +kernel
theorem d_D_reset_21 : decode c_D_reset 21 = .ok (.iload_n 1, 1) := by decide +kernel
theorem d_D_reset_22 : decode c_D_reset 22 = .ok (.invokevirtual 78, 3) := by decide +kernel
theorem d_D_reset_25 : decode c_D_reset 25 = .ok (.pop, 1) := by decide +kernel
theorem d_D_reset_26 : decode c_D_reset 26 = .ok (.iconst 0, 1) := by decide +kernel
theorem d_D_reset_27 : decode c_D_reset 27 = .ok (.ireturn, 1) := by decide +kernel
theorem d_D_remove_0 : decode c_D_remove 0 = .ok (.aload_n 0, 1) := by decide +kernel
theorem d_D_remove_1 : decode c_D_remove 1 = .ok (.iload_n 1, 1) := by decide +kernel
theorem d_D_remove_2 : decode c_D_remove 2 = .ok (.invokevirtual 72, 3) := by decide +kernel
theorem d_D_remove_5 : decode c_D_remove 5 = .ok (.ifCond .eq 11, 3) := by decide +kernel
theorem d_D_remove_8 : decode c_D_remove 8 = .ok (.iload_n 1, 1) := by decide +kernel
theorem d_D_remove_9 : decode c_D_remove 9 = .ok (.aload_n 0, 1) := by decide +kernel
theorem d_D_remove_10 : decode c_D_remove 10 = .ok (.getfield 58, 3) := by decide +kernel
theorem d_D_remove_13 : decode c_D_remove 13 = .ok (.if_icmp .ne 5, 3) := by decide +kernel
theorem d_D_remove_16 : decode c_D_remove 16 = .ok (.iconst (-1), 1) := by decide +kernel
theorem d_D_remove_17 : decode c_D_remove 17 = .ok (.ireturn, 1) := by decide +kernel
theorem d_D_remove_18 : decode c_D_remove 18 = .ok (.aload_n 0, 1) := by decide +kernel
theorem d_D_remove_19 : decode c_D_remove 19 = .ok (.getfield 26, 3) := by decide +kernel
theorem d_D_remove_22 : decode c_D_remove 22 = .ok (.iload_n 1, 1) := by decide +kernel
theorem d_D_remove_23 : decode c_D_remove 23 = .ok (.iconst 0, 1) := by decide +kernel
theorem d_D_remove_24 : decode c_D_remove 24 = .ok (.iastore, 1) := by decide +kernel
theorem d_D_remove_25 : decode c_D_remove 25 = .ok (.iconst 0, 1) := by decide +kernel
theorem d_D_remove_26 : decode c_D_remove 26 = .ok (.ireturn, 1) := by decide +kernel
theorem d_D_sweep_0 : decode c_D_sweep 0 = .ok (.aload_n 0, 1) := by decide +kernel
theorem d_D_sweep_1 : decode c_D_sweep 1 = .ok (.getfield 10, 3) := by decide +kernel
theorem d_D_sweep_4 : decode c_D_sweep 4 = .ok (.invokevirtual 99, 3) := by decide +kernel
theorem d_D_sweep_7 : decode c_D_sweep 7 = .ok (.istore_n 1, 1) := by decide +kernel
theorem d_D_sweep_8 : decode c_D_sweep 8 = .ok (.aload_n 0, 1) := by decide +kernel
theorem d_D_sweep_9 : decode c_D_sweep 9 = .ok (.getfield 10, 3) := by decide +kernel
theorem d_D_sweep_12 : decode c_D_sweep 12 = .ok (.aload_n 0, 1) := by decide +kernel
theorem d_D_sweep_13 : decode c_D_sweep 13 = .ok (.getfield 47, 3) := by decide +kernel
theorem d_D_sweep_16 : decode c_D_sweep 16 = .ok (.invokevirtual 102, 3) := by decide +kernel
theorem d_D_sweep_19 : decode c_D_sweep 19 = .ok (.istore_n 2, 1) := by decide +kernel
theorem d_D_sweep_20 : decode c_D_sweep 20 = .ok (.iconst 0, 1) := by decide +kernel
theorem d_D_sweep_21 : decode c_D_sweep 21 = .ok (.istore_n 3, 1) := by decide +kernel
theorem d_D_sweep_22 : decode c_D_sweep 22 = .ok (.iload_n 3, 1) := by decide +kernel
theorem d_D_sweep_23 : decode c_D_sweep 23 = .ok (.bipush 6, 2) := by decide +kernel
theorem d_D_sweep_25 : decode c_D_sweep 25 = .ok (.if_icmp .ge 25, 3) := by decide +kernel
theorem d_D_sweep_28 : decode c_D_sweep 28 = .ok (.iload_n 2, 1) := by decide +kernel
theorem d_D_sweep_29 : decode c_D_sweep 29 = .ok (.aload_n 0, 1) := by decide +kernel
theorem d_D_sweep_30 : decode c_D_sweep 30 = .ok (.getfield 10, 3) := by decide +kernel
theorem d_D_sweep_33 : decode c_D_sweep 33 = .ok (.aload_n 0, 1) := by decide +kernel
theorem d_D_sweep_34 : decode c_D_sweep 34 = .ok (.getfield 26, 3) := by decide +kernel
theorem d_D_sweep_37 : decode c_D_sweep 37 = .ok (.iload_n 3, 1) := by decide +kernel
theorem d_D_sweep_38 : decode c_D_sweep 38 = .ok (.iaload, 1) := by decide +kernel
theorem d_D_sweep_39 : decode c_D_sweep 39 = .ok (.invokevirtual 102, 3) := by decide +kernel
theorem d_D_sweep_42 : decode c_D_sweep 42 = .ok (.ior, 1) := by decide +kernel
theorem d_D_sweep_43 : decode c_D_sweep 43 = .ok (.istore_n 2, 1) := by decide +kernel
theorem d_D_sweep_44 : decode c_D_sweep 44 = .ok (.iinc 3 1, 3) := by decide +kernel
theorem d_D_sweep_47 : decode c_D_sweep 47 = .ok (.goto (-25), 3) := by decide +kernel
theorem d_D_sweep_50 : decode c_D_sweep 50 = .ok (.aload_n 0, 1) := by decide +kernel
theorem d_D_sweep_51 : decode c_D_sweep 51 = .ok (.getfield 10, 3) := by decide +kernel
theorem d_D_sweep_54 : decode c_D_sweep 54 = .ok (.iload_n 2, 1) := by decide +kernel
theorem d_D_sweep_55 : decode c_D_sweep 55 = .ok (.invokevirtual 105, 3) := by decide +kernel
theorem d_D_sweep_58 : decode c_D_sweep 58 = .ok (.iconst 0, 1) := by decide +kernel
theorem d_D_sweep_59 : decode c_D_sweep 59 = .ok (.istore_n 3, 1) := by decide +kernel
theorem d_D_sweep_60 : decode c_D_sweep 60 = .ok (.iload_n 3, 1) := by decide +kernel
theorem d_D_sweep_61 : decode c_D_sweep 61 = .ok (.bipush 16, 2) := by decide +kernel
theorem d_D_sweep_63 : decode c_D_sweep 63 = .ok (.if_icmp .ge 25, 3) := by decide +kernel
theorem d_D_sweep_66 : decode c_D_sweep 66 = .ok (.aload_n 0, 1) := by decide +kernel
theorem d_D_sweep_67 : decode c_D_sweep 67 = .ok (.getfield 10, 3) := by decide +kernel
theorem d_D_sweep_70 : decode c_D_sweep 70 = .ok (.getfield 33, 3) := by decide +kernel
theorem d_D_sweep_73 : decode c_D_sweep 73 = .ok (.aload_n 0, 1) := by decide +kernel
theorem d_D_sweep_74 : decode c_D_sweep 74 = .ok (.getfield 20, 3) := by decide +kernel
theorem d_D_sweep_77 : decode c_D_sweep 77 = .ok (.iload_n 3, 1) := by decide +kernel
theorem d_D_sweep_78 : decode c_D_sweep 78 = .ok (.iaload, 1) := by decide +kernel
theorem d_D_sweep_79 : decode c_D_sweep 79 = .ok (.invokevirtual 37, 3) := by decide +kernel
theorem d_D_sweep_82 : decode c_D_sweep 82 = .ok (.iinc 3 1, 3) := by decide +kernel
theorem d_D_sweep_85 : decode c_D_sweep 85 = .ok (.goto (-25), 3) := by decide +kernel
theorem d_D_sweep_88 : decode c_D_sweep 88 = .ok (.iload_n 1, 1) := by decide +kernel
theorem d_D_sweep_89 : decode c_D_sweep 89 = .ok (.aload_n 0, 1) := by decide +kernel
theorem d_D_sweep_90 : decode c_D_sweep 90 = .ok (.getfield 10, 3) := by decide +kernel
theorem d_D_sweep_93 : decode c_D_sweep 93 = .ok (.invokevirtual 99, 3) := by decide +kernel
theorem d_D_sweep_96 : decode c_D_sweep 96 = .ok (.isub, 1) := by decide +kernel
theorem d_D_sweep_97 : decode c_D_sweep 97 = .ok (.ireturn, 1) := by decide +kernel
theorem d_D_content_0 : decode c_D_content 0 = .ok (.iload_n 2, 1) := by decide +kernel
theorem d_D_content_1 : decode c_D_content 1 = .ok (.invokestatic 29, 3) := by decide +kernel
theorem d_D_content_4 : decode c_D_content 4 = .ok (.ifCond .ne 5, 3) := by decide +kernel
theorem d_D_content_7 : decode c_D_content 7 = .ok (.iconst (-1), 1) := by decide +kernel
theorem d_D_content_8 : decode c_D_content 8 = .ok (.ireturn, 1) := by decide +kernel
theorem d_D_content_9 : decode c_D_content 9 = .ok (.iload_n 1, 1) := by decide +kernel
theorem d_D_content_10 : decode c_D_content 10 = .ok (.lookupswitch 40 #[(0, 26), (1, 33)], 26) := by decide +kernel
theorem d_D_content_36 : decode c_D_content 36 = .ok (.aload_n 0, 1) := by decide +kernel
theorem d_D_content_37 : decode c_D_content 37 = .ok (.getfield 16, 3) := by decide +kernel
theorem d_D_content_40 : decode c_D_content 40 = .ok (.iload_n 2, 1) := by decide +kernel
theorem d_D_content_41 : decode c_D_content 41 = .ok (.iaload, 1) := by decide +kernel
theorem d_D_content_42 : decode c_D_content 42 = .ok (.ireturn, 1) := by decide +kernel
theorem d_D_content_43 : decode c_D_content 43 = .ok (.aload_n 0, 1) := by decide +kernel
theorem d_D_content_44 : decode c_D_content 44 = .ok (.getfield 20, 3) := by decide +kernel
theorem d_D_content_47 : decode c_D_content 47 = .ok (.iload_n 2, 1) := by decide +kernel
theorem d_D_content_48 : decode c_D_content 48 = .ok (.iaload, 1) := by decide +kernel
theorem d_D_content_49 : decode c_D_content 49 = .ok (.ireturn, 1) := by decide +kernel
theorem d_D_content_50 : decode c_D_content 50 = .ok (.iconst (-1), 1) := by decide +kernel
theorem d_D_content_51 : decode c_D_content 51 = .ok (.ireturn, 1) := by decide +kernel
theorem d_D_at_0 : decode c_D_at 0 = .ok (.aload_n 0, 1) := by decide +kernel
theorem d_D_at_1 : decode c_D_at 1 = .ok (.getfield 10, 3) := by decide +kernel
theorem d_D_at_4 : decode c_D_at 4 = .ok (.iload_n 1, 1) := by decide +kernel
theorem d_D_at_5 : decode c_D_at 5 = .ok (.invokevirtual 89, 3) := by decide +kernel
theorem d_D_at_8 : decode c_D_at 8 = .ok (.ifCond .eq 10, 3) := by decide +kernel
theorem d_D_at_11 : decode c_D_at 11 = .ok (.iload_n 2, 1) := by decide +kernel
theorem d_D_at_12 : decode c_D_at 12 = .ok (.invokestatic 29, 3) := by decide +kernel
theorem d_D_at_15 : decode c_D_at 15 = .ok (.ifCond .ne 5, 3) := by decide +kernel
theorem d_D_at_18 : decode c_D_at 18 = .ok (.iconst (-1), 1) := by decide +kernel
theorem d_D_at_19 : decode c_D_at 19 = .ok (.ireturn, 1) := by decide +kernel
theorem d_D_at_20 : decode c_D_at 20 = .ok (.aload_n 0, 1) := by decide +kernel
theorem d_D_at_21 : decode c_D_at 21 = .ok (.getfield 10, 3) := by decide +kernel
theorem d_D_at_24 : decode c_D_at 24 = .ok (.iload_n 1, 1) := by decide +kernel
theorem d_D_at_25 : decode c_D_at 25 = .ok (.iload_n 2, 1) := by decide +kernel
theorem d_D_at_26 : decode c_D_at 26 = .ok (.invokevirtual 108, 3) := by decide +kernel
theorem d_D_at_29 : decode c_D_at 29 = .ok (.ireturn, 1) := by decide +kernel
theorem d_D_parent_0 : decode c_D_parent 0 = .ok (.aload_n 0, 1) := by decide +kernel
theorem d_D_parent_1 : decode c_D_parent 1 = .ok (.getfield 10, 3) := by decide +kernel
theorem d_D_parent_4 : decode c_D_parent 4 = .ok (.iload_n 1, 1) := by decide +kernel
theorem d_D_parent_5 : decode c_D_parent 5 = .ok (.invokevirtual 89, 3) := by decide +kernel
theorem d_D_parent_8 : decode c_D_parent 8 = .ok (.ifCond .eq 12, 3) := by decide +kernel
theorem d_D_parent_11 : decode c_D_parent 11 = .ok (.iload_n 2, 1) := by decide +kernel
theorem d_D_parent_12 : decode c_D_parent 12 = .ok (.ifCond .lt 8, 3) := by decide +kernel
theorem d_D_parent_15 : decode c_D_parent 15 = .ok (.iload_n 2, 1) := by decide +kernel
theorem d_D_parent_16 : decode c_D_parent 16 = .ok (.iconst 1, 1) := by decide +kernel
theorem d_D_parent_17 : decode c_D_parent 17 = .ok (.if_icmp .le 5, 3) := by decide +kernel
theorem d_D_parent_20 : decode c_D_parent 20 = .ok (.iconst (-1), 1) := by decide +kernel
theorem d_D_parent_21 : decode c_D_parent 21 = .ok (.ireturn, 1) := by decide +kernel
theorem d_D_parent_22 : decode c_D_parent 22 = .ok (.aload_n 0, 1) := by decide +kernel
theorem d_D_parent_23 : decode c_D_parent 23 = .ok (.getfield 10, 3) := by decide +kernel
theorem d_D_parent_26 : decode c_D_parent 26 = .ok (.iload_n 1, 1) := by decide +kernel
theorem d_D_parent_27 : decode c_D_parent 27 = .ok (.iload_n 2, 1) := by decide +kernel
theorem d_D_parent_28 : decode c_D_parent 28 = .ok (.invokevirtual 92, 3) := by decide +kernel
theorem d_D_parent_31 : decode c_D_parent 31 = .ok (.ireturn, 1) := by decide +kernel
theorem d_D_branchAt_0 : decode c_D_branchAt 0 = .ok (.iload_n 1, 1) := by decide +kernel
theorem d_D_branchAt_1 : decode c_D_branchAt 1 = .ok (.invokestatic 69, 3) := by decide +kernel
theorem d_D_branchAt_4 : decode c_D_branchAt 4 = .ok (.ifCond .eq 12, 3) := by decide +kernel
theorem d_D_branchAt_7 : decode c_D_branchAt 7 = .ok (.aload_n 0, 1) := by decide +kernel
theorem d_D_branchAt_8 : decode c_D_branchAt 8 = .ok (.getfield 26, 3) := by decide +kernel
theorem d_D_branchAt_11 : decode c_D_branchAt 11 = .ok (.iload_n 1, 1) := by decide +kernel
theorem d_D_branchAt_12 : decode c_D_branchAt 12 = .ok (.iaload, 1) := by decide +kernel
theorem d_D_branchAt_13 : decode c_D_branchAt 13 = .ok (.goto 4, 3) := by decide +kernel
theorem d_D_branchAt_16 : decode c_D_branchAt 16 = .ok (.iconst (-1), 1) := by decide +kernel
theorem d_D_branchAt_17 : decode c_D_branchAt 17 = .ok (.ireturn, 1) := by decide +kernel
theorem d_D_common_0 : decode c_D_common 0 = .ok (.aload_n 0, 1) := by decide +kernel
theorem d_D_common_1 : decode c_D_common 1 = .ok (.getfield 10, 3) := by decide +kernel
theorem d_D_common_4 : decode c_D_common 4 = .ok (.iload_n 1, 1) := by decide +kernel
theorem d_D_common_5 : decode c_D_common 5 = .ok (.invokevirtual 89, 3) := by decide +kernel
theorem d_D_common_8 : decode c_D_common 8 = .ok (.ifCond .eq 14, 3) := by decide +kernel
theorem d_D_common_11 : decode c_D_common 11 = .ok (.aload_n 0, 1) := by decide +kernel
theorem d_D_common_12 : decode c_D_common 12 = .ok (.getfield 10, 3) := by decide +kernel
theorem d_D_common_15 : decode c_D_common 15 = .ok (.iload_n 2, 1) := by decide +kernel
theorem d_D_common_16 : decode c_D_common 16 = .ok (.invokevirtual 89, 3) := by decide +kernel
theorem d_D_common_19 : decode c_D_common 19 = .ok (.ifCond .ne 5, 3) := by decide +kernel
theorem d_D_common_22 : decode c_D_common 22 = .ok (.iconst (-1), 1) := by decide +kernel
theorem d_D_common_23 : decode c_D_common 23 = .ok (.ireturn, 1) := by decide +kernel
theorem d_D_common_24 : decode c_D_common 24 = .ok (.aload_n 0, 1) := by decide +kernel
theorem d_D_common_25 : decode c_D_common 25 = .ok (.getfield 10, 3) := by decide +kernel
theorem d_D_common_28 : decode c_D_common 28 = .ok (.iload_n 1, 1) := by decide +kernel
theorem d_D_common_29 : decode c_D_common 29 = .ok (.iload_n 2, 1) := by decide +kernel
theorem d_D_common_30 : decode c_D_common 30 = .ok (.invokevirtual 111, 3) := by decide +kernel
theorem d_D_common_33 : decode c_D_common 33 = .ok (.ireturn, 1) := by decide +kernel
theorem d_D_differ_0 : decode c_D_differ 0 = .ok (.aload_n 0, 1) := by decide +kernel
theorem d_D_differ_1 : decode c_D_differ 1 = .ok (.getfield 10, 3) := by decide +kernel
theorem d_D_differ_4 : decode c_D_differ 4 = .ok (.iload_n 1, 1) := by decide +kernel
theorem d_D_differ_5 : decode c_D_differ 5 = .ok (.invokevirtual 89, 3) := by decide +kernel
theorem d_D_differ_8 : decode c_D_differ 8 = .ok (.ifCond .eq 14, 3) := by decide +kernel
theorem d_D_differ_11 : decode c_D_differ 11 = .ok (.aload_n 0, 1) := by decide +kernel
theorem d_D_differ_12 : decode c_D_differ 12 = .ok (.getfield 10, 3) := by decide +kernel
theorem d_D_differ_15 : decode c_D_differ 15 = .ok (.iload_n 2, 1) := by decide +kernel
theorem d_D_differ_16 : decode c_D_differ 16 = .ok (.invokevirtual 89, 3) := by decide +kernel
theorem d_D_differ_19 : decode c_D_differ 19 = .ok (.ifCond .ne 5, 3) := by decide +kernel
theorem d_D_differ_22 : decode c_D_differ 22 = .ok (.iconst (-1), 1) := by decide +kernel
theorem d_D_differ_23 : decode c_D_differ 23 = .ok (.ireturn, 1) := by decide +kernel
theorem d_D_differ_24 : decode c_D_differ 24 = .ok (.iconst 0, 1) := by decide +kernel
theorem d_D_differ_25 : decode c_D_differ 25 = .ok (.istore_n 3, 1) := by decide +kernel
theorem d_D_differ_26 : decode c_D_differ 26 = .ok (.iconst 0, 1) := by decide +kernel
theorem d_D_differ_27 : decode c_D_differ 27 = .ok (.istore 4, 2) := by decide +kernel
theorem d_D_differ_29 : decode c_D_differ 29 = .ok (.iload 4, 2) := by decide +kernel
theorem d_D_differ_31 : decode c_D_differ 31 = .ok (.bipush 16, 2) := by decide +kernel
theorem d_D_differ_33 : decode c_D_differ 33 = .ok (.if_icmp .ge 35, 3) := by decide +kernel
theorem d_D_differ_36 : decode c_D_differ 36 = .ok (.aload_n 0, 1) := by decide +kernel
theorem d_D_differ_37 : decode c_D_differ 37 = .ok (.getfield 10, 3) := by decide +kernel
theorem d_D_differ_40 : decode c_D_differ 40 = .ok (.iload_n 1, 1) := by decide +kernel
theorem d_D_differ_41 : decode c_D_differ 41 = .ok (.iload 4, 2) := by decide +kernel
theorem d_D_differ_43 : decode c_D_differ 43 = .ok (.invokevirtual 108, 3) := by decide +kernel
theorem d_D_differ_46 : decode c_D_differ 46 = .ok (.aload_n 0, 1) := by decide +kernel
theorem d_D_differ_47 : decode c_D_differ 47 = .ok (.getfield 10, 3) := by decide +kernel
theorem d_D_differ_50 : decode c_D_differ 50 = .ok (.iload_n 2, 1) := by decide +kernel
theorem d_D_differ_51 : decode c_D_differ 51 = .ok (.iload 4, 2) := by decide +kernel
theorem d_D_differ_53 : decode c_D_differ 53 = .ok (.invokevirtual 108, 3) := by decide +kernel
theorem d_D_differ_56 : decode c_D_differ 56 = .ok (.if_icmp .eq 6, 3) := by decide +kernel
theorem d_D_differ_59 : decode c_D_differ 59 = .ok (.iinc 3 1, 3) := by decide +kernel
theorem d_D_differ_62 : decode c_D_differ 62 = .ok (.iinc 4 1, 3) := by decide +kernel
theorem d_D_differ_65 : decode c_D_differ 65 = .ok (.goto (-36), 3) := by decide +kernel
theorem d_D_differ_68 : decode c_D_differ 68 = .ok (.iload_n 3, 1) := by decide +kernel
theorem d_D_differ_69 : decode c_D_differ 69 = .ok (.ireturn, 1) := by decide +kernel
theorem d_D_clashing_0 : decode c_D_clashing 0 = .ok (.iload_n 1, 1) := by decide +kernel
theorem d_D_clashing_1 : decode c_D_clashing 1 = .ok (.invokestatic 29, 3) := by decide +kernel
theorem d_D_clashing_4 : decode c_D_clashing 4 = .ok (.ifCond .eq 18, 3) := by decide +kernel
theorem d_D_clashing_7 : decode c_D_clashing 7 = .ok (.aload_n 0, 1) := by decide +kernel
theorem d_D_clashing_8 : decode c_D_clashing 8 = .ok (.getfield 43, 3) := by decide +kernel
theorem d_D_clashing_11 : decode c_D_clashing 11 = .ok (.iconst 1, 1) := by decide +kernel
theorem d_D_clashing_12 : decode c_D_clashing 12 = .ok (.iload_n 1, 1) := by decide +kernel
theorem d_D_clashing_13 : decode c_D_clashing 13 = .ok (.ishl, 1) := by decide +kernel
theorem d_D_clashing_14 : decode c_D_clashing 14 = .ok (.iand, 1) := by decide +kernel
theorem d_D_clashing_15 : decode c_D_clashing 15 = .ok (.ifCond .eq 7, 3) := by decide +kernel
theorem d_D_clashing_18 : decode c_D_clashing 18 = .ok (.iconst 1, 1) := by decide +kernel
theorem d_D_clashing_19 : decode c_D_clashing 19 = .ok (.goto 4, 3) := by decide +kernel
theorem d_D_clashing_22 : decode c_D_clashing 22 = .ok (.iconst 0, 1) := by decide +kernel
theorem d_D_clashing_23 : decode c_D_clashing 23 = .ok (.ireturn, 1) := by decide +kernel
theorem d_D_count_0 : decode c_D_count 0 = .ok (.iload_n 1, 1) := by decide +kernel
theorem d_D_count_1 : decode c_D_count 1 = .ok (.tableswitch 132 0 9 #[55, 66, 77, 88, 96, 104, 109, 114, 119, 127], 55) := by decide +kernel
theorem d_D_count_56 : decode c_D_count 56 = .ok (.aload_n 0, 1) := by decide +kernel
theorem d_D_count_57 : decode c_D_count 57 = .ok (.getfield 10, 3) := by decide +kernel
theorem d_D_count_60 : decode c_D_count 60 = .ok (.getfield 33, 3) := by decide +kernel
theorem d_D_count_63 : decode c_D_count 63 = .ok (.invokevirtual 114, 3) := by decide +kernel
theorem d_D_count_66 : decode c_D_count 66 = .ok (.ireturn, 1) := by decide +kernel
theorem d_D_count_67 : decode c_D_count 67 = .ok (.aload_n 0, 1) := by decide +kernel
theorem d_D_count_68 : decode c_D_count 68 = .ok (.getfield 10, 3) := by decide +kernel
theorem d_D_count_71 : decode c_D_count 71 = .ok (.getfield 115, 3) := by decide +kernel
theorem d_D_count_74 : decode c_D_count 74 = .ok (.invokevirtual 119, 3) := by decide +kernel
theorem d_D_count_77 : decode c_D_count 77 = .ok (.ireturn, 1) := by decide +kernel
theorem d_D_count_78 : decode c_D_count 78 = .ok (.aload_n 0, 1) := by decide +kernel
theorem d_D_count_79 : decode c_D_count 79 = .ok (.getfield 10, 3) := by decide +kernel
theorem d_D_count_82 : decode c_D_count 82 = .ok (.getfield 122, 3) := by decide +kernel
theorem d_D_count_85 : decode c_D_count 85 = .ok (.invokevirtual 119, 3) := by decide +kernel
theorem d_D_count_88 : decode c_D_count 88 = .ok (.ireturn, 1) := by decide +kernel
theorem d_D_count_89 : decode c_D_count 89 = .ok (.aload_n 0, 1) := by decide +kernel
theorem d_D_count_90 : decode c_D_count 90 = .ok (.getfield 10, 3) := by decide +kernel
theorem d_D_count_93 : decode c_D_count 93 = .ok (.invokevirtual 125, 3) := by decide +kernel
theorem d_D_count_96 : decode c_D_count 96 = .ok (.ireturn, 1) := by decide +kernel
theorem d_D_count_97 : decode c_D_count 97 = .ok (.aload_n 0, 1) := by decide +kernel
theorem d_D_count_98 : decode c_D_count 98 = .ok (.getfield 10, 3) := by decide +kernel
theorem d_D_count_101 : decode c_D_count 101 = .ok (.getfield 128, 3) := by decide +kernel
theorem d_D_count_104 : decode c_D_count 104 = .ok (.ireturn, 1) := by decide +kernel
theorem d_D_count_105 : decode c_D_count 105 = .ok (.aload_n 0, 1) := by decide +kernel
theorem d_D_count_106 : decode c_D_count 106 = .ok (.getfield 58, 3) := by decide +kernel
theorem d_D_count_109 : decode c_D_count 109 = .ok (.ireturn, 1) := by decide +kernel
theorem d_D_count_110 : decode c_D_count 110 = .ok (.aload_n 0, 1) := by decide +kernel
theorem d_D_count_111 : decode c_D_count 111 = .ok (.invokevirtual 61, 3) := by decide +kernel
theorem d_D_count_114 : decode c_D_count 114 = .ok (.ireturn, 1) := by decide +kernel
theorem d_D_count_115 : decode c_D_count 115 = .ok (.aload_n 0, 1) := by decide +kernel
theorem d_D_count_116 : decode c_D_count 116 = .ok (.getfield 47, 3) := by decide +kernel
theorem d_D_count_119 : decode c_D_count 119 = .ok (.ireturn, 1) := by decide +kernel
theorem d_D_count_120 : decode c_D_count 120 = .ok (.aload_n 0, 1) := by decide +kernel
theorem d_D_count_121 : decode c_D_count 121 = .ok (.getfield 43, 3) := by decide +kernel
theorem d_D_count_124 : decode c_D_count 124 = .ok (.invokestatic 131, 3) := by decide +kernel
theorem d_D_count_127 : decode c_D_count 127 = .ok (.ireturn, 1) := by decide +kernel
theorem d_D_count_128 : decode c_D_count 128 = .ok (.aload_n 0, 1) := by decide +kernel
theorem d_D_count_129 : decode c_D_count 129 = .ok (.invokevirtual 136, 3) := by decide +kernel
theorem d_D_count_132 : decode c_D_count 132 = .ok (.ireturn, 1) := by decide +kernel
theorem d_D_count_133 : decode c_D_count 133 = .ok (.iconst (-1), 1) := by decide +kernel
theorem d_D_count_134 : decode c_D_count 134 = .ok (.ireturn, 1) := by decide +kernel
theorem d_D_isFile_0 : decode c_D_isFile 0 = .ok (.iload_n 0, 1) := by decide +kernel
theorem d_D_isFile_1 : decode c_D_isFile 1 = .ok (.ifCond .lt 13, 3) := by decide +kernel
theorem d_D_isFile_4 : decode c_D_isFile 4 = .ok (.iload_n 0, 1) := by decide +kernel
theorem d_D_isFile_5 : decode c_D_isFile 5 = .ok (.bipush 16, 2) := by decide +kernel
theorem d_D_isFile_7 : decode c_D_isFile 7 = .ok (.if_icmp .ge 7, 3) := by decide +kernel
theorem d_D_isFile_10 : decode c_D_isFile 10 = .ok (.iconst 1, 1) := by decide +kernel
theorem d_D_isFile_11 : decode c_D_isFile 11 = .ok (.goto 4, 3) := by decide +kernel
theorem d_D_isFile_14 : decode c_D_isFile 14 = .ok (.iconst 0, 1) := by decide +kernel
theorem d_D_isFile_15 : decode c_D_isFile 15 = .ok (.ireturn, 1) := by decide +kernel
theorem d_D_isBranch_0 : decode c_D_isBranch 0 = .ok (.iload_n 0, 1) := by decide +kernel
theorem d_D_isBranch_1 : decode c_D_isBranch 1 = .ok (.ifCond .lt 13, 3) := by decide +kernel
theorem d_D_isBranch_4 : decode c_D_isBranch 4 = .ok (.iload_n 0, 1) := by decide +kernel
theorem d_D_isBranch_5 : decode c_D_isBranch 5 = .ok (.bipush 6, 2) := by decide +kernel
theorem d_D_isBranch_7 : decode c_D_isBranch 7 = .ok (.if_icmp .ge 7, 3) := by decide +kernel
theorem d_D_isBranch_10 : decode c_D_isBranch 10 = .ok (.iconst 1, 1) := by decide +kernel
theorem d_D_isBranch_11 : decode c_D_isBranch 11 = .ok (.goto 4, 3) := by decide +kernel
theorem d_D_isBranch_14 : decode c_D_isBranch 14 = .ok (.iconst 0, 1) := by decide +kernel
theorem d_D_isBranch_15 : decode c_D_isBranch 15 = .ok (.ireturn, 1) := by decide +kernel
theorem d_D_isThere_0 : decode c_D_isThere 0 = .ok (.iload_n 1, 1) := by decide +kernel
theorem d_D_isThere_1 : decode c_D_isThere 1 = .ok (.invokestatic 69, 3) := by decide +kernel
theorem d_D_isThere_4 : decode c_D_isThere 4 = .ok (.ifCond .eq 16, 3) := by decide +kernel
theorem d_D_isThere_7 : decode c_D_isThere 7 = .ok (.aload_n 0, 1) := by decide +kernel
theorem d_D_isThere_8 : decode c_D_isThere 8 = .ok (.getfield 26, 3) := by decide +kernel
theorem d_D_isThere_11 : decode c_D_isThere 11 = .ok (.iload_n 1, 1) := by decide +kernel
theorem d_D_isThere_12 : decode c_D_isThere 12 = .ok (.iaload, 1) := by decide +kernel
theorem d_D_isThere_13 : decode c_D_isThere 13 = .ok (.ifCond .eq 7, 3) := by decide +kernel
theorem d_D_isThere_16 : decode c_D_isThere 16 = .ok (.iconst 1, 1) := by decide +kernel
theorem d_D_isThere_17 : decode c_D_isThere 17 = .ok (.goto 4, 3) := by decide +kernel
theorem d_D_isThere_20 : decode c_D_isThere 20 = .ok (.iconst 0, 1) := by decide +kernel
theorem d_D_isThere_21 : decode c_D_isThere 21 = .ok (.ireturn, 1) := by decide +kernel
theorem d_D_here_0 : decode c_D_here 0 = .ok (.aload_n 0, 1) := by decide +kernel
theorem d_D_here_1 : decode c_D_here 1 = .ok (.getfield 26, 3) := by decide +kernel
theorem d_D_here_4 : decode c_D_here 4 = .ok (.aload_n 0, 1) := by decide +kernel
theorem d_D_here_5 : decode c_D_here 5 = .ok (.getfield 58, 3) := by decide +kernel
theorem d_D_here_8 : decode c_D_here 8 = .ok (.iaload, 1) := by decide +kernel
theorem d_D_here_9 : decode c_D_here 9 = .ok (.ireturn, 1) := by decide +kernel
theorem d_D_isTidy_0 : decode c_D_isTidy 0 = .ok (.aload_n 0, 1) := by decide +kernel
theorem d_D_isTidy_1 : decode c_D_isTidy 1 = .ok (.invokevirtual 136, 3) := by decide +kernel
theorem d_D_isTidy_4 : decode c_D_isTidy 4 = .ok (.ifCond .ne 18, 3) := by decide +kernel
theorem d_D_isTidy_7 : decode c_D_isTidy 7 = .ok (.aload_n 0, 1) := by decide +kernel
theorem d_D_isTidy_8 : decode c_D_isTidy 8 = .ok (.aload_n 0, 1) := by decide +kernel
theorem d_D_isTidy_9 : decode c_D_isTidy 9 = .ok (.getfield 20, 3) := by decide +kernel
theorem d_D_isTidy_12 : decode c_D_isTidy 12 = .ok (.invokevirtual 50, 3) := by decide +kernel
theorem d_D_isTidy_15 : decode c_D_isTidy 15 = .ok (.ifCond .eq 7, 3) := by decide +kernel
theorem d_D_isTidy_18 : decode c_D_isTidy 18 = .ok (.iconst 1, 1) := by decide +kernel
theorem d_D_isTidy_19 : decode c_D_isTidy 19 = .ok (.goto 4, 3) := by decide +kernel
theorem d_D_isTidy_22 : decode c_D_isTidy 22 = .ok (.iconst 0, 1) := by decide +kernel
theorem d_D_isTidy_23 : decode c_D_isTidy 23 = .ok (.ireturn, 1) := by decide +kernel
theorem d_D_unstaged_0 : decode c_D_unstaged 0 = .ok (.iconst 0, 1) := by decide +kernel
theorem d_D_unstaged_1 : decode c_D_unstaged 1 = .ok (.istore_n 1, 1) := by decide +kernel
theorem d_D_unstaged_2 : decode c_D_unstaged 2 = .ok (.iconst 0, 1) := by decide +kernel
theorem d_D_unstaged_3 : decode c_D_unstaged 3 = .ok (.istore_n 2, 1) := by decide +kernel
theorem d_D_unstaged_4 : decode c_D_unstaged 4 = .ok (.iload_n 2, 1) := by decide +kernel
theorem d_D_unstaged_5 : decode c_D_unstaged 5 = .ok (.bipush 16, 2) := by decide +kernel
theorem d_D_unstaged_7 : decode c_D_unstaged 7 = .ok (.if_icmp .ge 27, 3) := by decide +kernel
theorem d_D_unstaged_10 : decode c_D_unstaged 10 = .ok (.aload_n 0, 1) := by decide +kernel
theorem d_D_unstaged_11 : decode c_D_unstaged 11 = .ok (.getfield 16, 3) := by decide +kernel
theorem d_D_unstaged_14 : decode c_D_unstaged 14 = .ok (.iload_n 2, 1) := by decide +kernel
theorem d_D_unstaged_15 : decode c_D_unstaged 15 = .ok (.iaload, 1) := by decide +kernel
theorem d_D_unstaged_16 : decode c_D_unstaged 16 = .ok (.aload_n 0, 1) := by decide +kernel
theorem d_D_unstaged_17 : decode c_D_unstaged 17 = .ok (.getfield 20, 3) := by decide +kernel
theorem d_D_unstaged_20 : decode c_D_unstaged 20 = .ok (.iload_n 2, 1) := by decide +kernel
theorem d_D_unstaged_21 : decode c_D_unstaged 21 = .ok (.iaload, 1) := by decide +kernel
theorem d_D_unstaged_22 : decode c_D_unstaged 22 = .ok (.if_icmp .eq 6, 3) := by decide +kernel
theorem d_D_unstaged_25 : decode c_D_unstaged 25 = .ok (.iinc 1 1, 3) := by decide +kernel
theorem d_D_unstaged_28 : decode c_D_unstaged 28 = .ok (.iinc 2 1, 3) := by decide +kernel
theorem d_D_unstaged_31 : decode c_D_unstaged 31 = .ok (.goto (-27), 3) := by decide +kernel
theorem d_D_unstaged_34 : decode c_D_unstaged 34 = .ok (.iload_n 1, 1) := by decide +kernel
theorem d_D_unstaged_35 : decode c_D_unstaged 35 = .ok (.ireturn, 1) := by decide +kernel
theorem d_D_isAsHere_0 : decode c_D_isAsHere 0 = .ok (.iconst 0, 1) := by decide +kernel
theorem d_D_isAsHere_1 : decode c_D_isAsHere 1 = .ok (.istore_n 2, 1) := by decide +kernel
theorem d_D_isAsHere_2 : decode c_D_isAsHere 2 = .ok (.iload_n 2, 1) := by decide +kernel
theorem d_D_isAsHere_3 : decode c_D_isAsHere 3 = .ok (.bipush 16, 2) := by decide +kernel
theorem d_D_isAsHere_5 : decode c_D_isAsHere 5 = .ok (.if_icmp .ge 29, 3) := by decide +kernel
theorem d_D_isAsHere_8 : decode c_D_isAsHere 8 = .ok (.aload_n 1, 1) := by decide +kernel
theorem d_D_isAsHere_9 : decode c_D_isAsHere 9 = .ok (.iload_n 2, 1) := by decide +kernel
theorem d_D_isAsHere_10 : decode c_D_isAsHere 10 = .ok (.iaload, 1) := by decide +kernel
theorem d_D_isAsHere_11 : decode c_D_isAsHere 11 = .ok (.aload_n 0, 1) := by decide +kernel
theorem d_D_isAsHere_12 : decode c_D_isAsHere 12 = .ok (.getfield 10, 3) := by decide +kernel
theorem d_D_isAsHere_15 : decode c_D_isAsHere 15 = .ok (.aload_n 0, 1) := by decide +kernel
theorem d_D_isAsHere_16 : decode c_D_isAsHere 16 = .ok (.invokevirtual 61, 3) := by decide +kernel
theorem d_D_isAsHere_19 : decode c_D_isAsHere 19 = .ok (.iload_n 2, 1) := by decide +kernel
theorem d_D_isAsHere_20 : decode c_D_isAsHere 20 = .ok (.invokevirtual 108, 3) := by decide +kernel
theorem d_D_isAsHere_23 : decode c_D_isAsHere 23 = .ok (.if_icmp .eq 5, 3) := by decide +kernel
theorem d_D_isAsHere_26 : decode c_D_isAsHere 26 = .ok (.iconst 0, 1) := by decide +kernel
theorem d_D_isAsHere_27 : decode c_D_isAsHere 27 = .ok (.ireturn, 1) := by decide +kernel
theorem d_D_isAsHere_28 : decode c_D_isAsHere 28 = .ok (.iinc 2 1, 3) := by decide +kernel
theorem d_D_isAsHere_31 : decode c_D_isAsHere 31 = .ok (.goto (-29), 3) := by decide +kernel
theorem d_D_isAsHere_34 : decode c_D_isAsHere 34 = .ok (.iconst 1, 1) := by decide +kernel
theorem d_D_isAsHere_35 : decode c_D_isAsHere 35 = .ok (.ireturn, 1) := by decide +kernel
theorem d_D_moveTo_0 : decode c_D_moveTo 0 = .ok (.aload_n 0, 1) := by decide +kernel
theorem d_D_moveTo_1 : decode c_D_moveTo 1 = .ok (.getfield 26, 3) := by decide +kernel
theorem d_D_moveTo_4 : decode c_D_moveTo 4 = .ok (.aload_n 0, 1) := by decide +kernel
theorem d_D_moveTo_5 : decode c_D_moveTo 5 = .ok (.getfield 58, 3) := by decide +kernel
theorem d_D_moveTo_8 : decode c_D_moveTo 8 = .ok (.iload_n 1, 1) := by decide +kernel
theorem d_D_moveTo_9 : decode c_D_moveTo 9 = .ok (.iastore, 1) := by decide +kernel
theorem d_D_moveTo_10 : decode c_D_moveTo 10 = .ok (.iconst 0, 1) := by decide +kernel
theorem d_D_moveTo_11 : decode c_D_moveTo 11 = .ok (.istore_n 2, 1) := by decide +kernel
theorem d_D_moveTo_12 : decode c_D_moveTo 12 = .ok (.iload_n 2, 1) := by decide +kernel
theorem d_D_moveTo_13 : decode c_D_moveTo 13 = .ok (.bipush 16, 2) := by decide +kernel
theorem d_D_moveTo_15 : decode c_D_moveTo 15 = .ok (.if_icmp .ge 36, 3) := by decide +kernel
theorem d_D_moveTo_18 : decode c_D_moveTo 18 = .ok (.aload_n 0, 1) := by decide +kernel
theorem d_D_moveTo_19 : decode c_D_moveTo 19 = .ok (.getfield 20, 3) := by decide +kernel
theorem d_D_moveTo_22 : decode c_D_moveTo 22 = .ok (.iload_n 2, 1) := by decide +kernel
theorem d_D_moveTo_23 : decode c_D_moveTo 23 = .ok (.aload_n 0, 1) := by decide +kernel
theorem d_D_moveTo_24 : decode c_D_moveTo 24 = .ok (.getfield 10, 3) := by decide +kernel
theorem d_D_moveTo_27 : decode c_D_moveTo 27 = .ok (.iload_n 1, 1) := by decide +kernel
theorem d_D_moveTo_28 : decode c_D_moveTo 28 = .ok (.iload_n 2, 1) := by decide +kernel
theorem d_D_moveTo_29 : decode c_D_moveTo 29 = .ok (.invokevirtual 108, 3) := by decide +kernel
theorem d_D_moveTo_32 : decode c_D_moveTo 32 = .ok (.iastore, 1) := by decide +kernel
theorem d_D_moveTo_33 : decode c_D_moveTo 33 = .ok (.aload_n 0, 1) := by decide +kernel
theorem d_D_moveTo_34 : decode c_D_moveTo 34 = .ok (.getfield 16, 3) := by decide +kernel
theorem d_D_moveTo_37 : decode c_D_moveTo 37 = .ok (.iload_n 2, 1) := by decide +kernel
theorem d_D_moveTo_38 : decode c_D_moveTo 38 = .ok (.aload_n 0, 1) := by decide +kernel
theorem d_D_moveTo_39 : decode c_D_moveTo 39 = .ok (.getfield 20, 3) := by decide +kernel
theorem d_D_moveTo_42 : decode c_D_moveTo 42 = .ok (.iload_n 2, 1) := by decide +kernel
theorem d_D_moveTo_43 : decode c_D_moveTo 43 = .ok (.iaload, 1) := by decide +kernel
theorem d_D_moveTo_44 : decode c_D_moveTo 44 = .ok (.iastore, 1) := by decide +kernel
theorem d_D_moveTo_45 : decode c_D_moveTo 45 = .ok (.iinc 2 1, 3) := by decide +kernel
theorem d_D_moveTo_48 : decode c_D_moveTo 48 = .ok (.goto (-36), 3) := by decide +kernel
theorem d_D_moveTo_51 : decode c_D_moveTo 51 = .ok (.iload_n 1, 1) := by decide +kernel
theorem d_D_moveTo_52 : decode c_D_moveTo 52 = .ok (.ireturn, 1) := by decide +kernel
theorem d_D_mergeApart_0 : decode c_D_mergeApart 0 = .ok (.aload_n 0, 1) := by decide +kernel
theorem d_D_mergeApart_1 : decode c_D_mergeApart 1 = .ok (.iload_n 1, 1) := by decide +kernel
theorem d_D_mergeApart_2 : decode c_D_mergeApart 2 = .ok (.aload_n 0, 1) := by decide +kernel
theorem d_D_mergeApart_3 : decode c_D_mergeApart 3 = .ok (.getfield 10, 3) := by decide +kernel
theorem d_D_mergeApart_6 : decode c_D_mergeApart 6 = .ok (.aload_n 0, 1) := by decide +kernel
theorem d_D_mergeApart_7 : decode c_D_mergeApart 7 = .ok (.invokevirtual 61, 3) := by decide +kernel
theorem d_D_mergeApart_10 : decode c_D_mergeApart 10 = .ok (.iload_n 1, 1) := by decide +kernel
theorem d_D_mergeApart_11 : decode c_D_mergeApart 11 = .ok (.invokevirtual 111, 3) := by decide +kernel
theorem d_D_mergeApart_14 : decode c_D_mergeApart 14 = .ok (.invokevirtual 96, 3) := by decide +kernel
theorem d_D_mergeApart_17 : decode c_D_mergeApart 17 = .ok (.istore_n 2, 1) := by decide +kernel
theorem d_D_mergeApart_18 : decode c_D_mergeApart 18 = .ok (.iload_n 2, 1) := by decide +kernel
theorem d_D_mergeApart_19 : decode c_D_mergeApart 19 = .ok (.ifCond .ne 39, 3) := by decide +kernel
theorem d_D_mergeApart_22 : decode c_D_mergeApart 22 = .ok (.aload_n 0, 1) := by decide +kernel
theorem d_D_mergeApart_23 : decode c_D_mergeApart 23 = .ok (.getfield 10, 3) := by decide +kernel
theorem d_D_mergeApart_26 : decode c_D_mergeApart 26 = .ok (.invokevirtual 54, 3) := by decide +kernel
theorem d_D_mergeApart_29 : decode c_D_mergeApart 29 = .ok (.ifCond .eq 8, 3) := by decide +kernel
theorem d_D_mergeApart_32 : decode c_D_mergeApart 32 = .ok (.bipush (-2), 2) := by decide +kernel
theorem d_D_mergeApart_34 : decode c_D_mergeApart 34 = .ok (.goto 23, 3) := by decide +kernel
theorem d_D_mergeApart_37 : decode c_D_mergeApart 37 = .ok (.aload_n 0, 1) := by decide +kernel
theorem d_D_mergeApart_38 : decode c_D_mergeApart 38 = .ok (.aload_n 0, 1) := by decide +kernel
theorem d_D_mergeApart_39 : decode c_D_mergeApart 39 = .ok (.getfield 10, 3) := by decide +kernel
theorem d_D_mergeApart_42 : decode c_D_mergeApart 42 = .ok (.aload_n 0, 1) := by decide +kernel
theorem d_D_mergeApart_43 : decode c_D_mergeApart 43 = .ok (.getfield 23, 3) := by decide +kernel
theorem d_D_mergeApart_46 : decode c_D_mergeApart 46 = .ok (.aload_n 0, 1) := by decide +kernel
theorem d_D_mergeApart_47 : decode c_D_mergeApart 47 = .ok (.invokevirtual 61, 3) := by decide +kernel
theorem d_D_mergeApart_50 : decode c_D_mergeApart 50 = .ok (.iload_n 1, 1) := by decide +kernel
theorem d_D_mergeApart_51 : decode c_D_mergeApart 51 = .ok (.invokevirtual 65, 3) := by decide +kernel
theorem d_D_mergeApart_54 : decode c_D_mergeApart 54 = .ok (.invokevirtual 78, 3) := by decide +kernel
theorem d_D_mergeApart_57 : decode c_D_mergeApart 57 = .ok (.ireturn, 1) := by decide +kernel
theorem d_D_mergeApart_58 : decode c_D_mergeApart 58 = .ok (.aload_n 0, 1) := by decide +kernel
theorem d_D_mergeApart_59 : decode c_D_mergeApart 59 = .ok (.getfield 23, 3) := by decide +kernel
theorem d_D_mergeApart_62 : decode c_D_mergeApart 62 = .ok (.iconst 0, 1) := by decide +kernel
theorem d_D_mergeApart_63 : decode c_D_mergeApart 63 = .ok (.aload_n 0, 1) := by decide +kernel
theorem d_D_mergeApart_64 : decode c_D_mergeApart 64 = .ok (.getfield 20, 3) := by decide +kernel
theorem d_D_mergeApart_67 : decode c_D_mergeApart 67 = .ok (.iconst 0, 1) := by decide +kernel
theorem d_D_mergeApart_68 : decode c_D_mergeApart 68 = .ok (.bipush 16, 2) := by decide +kernel
theorem d_D_mergeApart_70 : decode c_D_mergeApart 70 = .ok (.invokestatic 139, 3) := by decide +kernel
theorem d_D_mergeApart_73 : decode c_D_mergeApart 73 = .ok (.aload_n 0, 1) := by decide +kernel
theorem d_D_mergeApart_74 : decode c_D_mergeApart 74 = .ok (.getfield 23, 3) := by decide +kernel
theorem d_D_mergeApart_77 : decode c_D_mergeApart 77 = .ok (.iconst 0, 1) := by decide +kernel
theorem d_D_mergeApart_78 : decode c_D_mergeApart 78 = .ok (.aload_n 0, 1) := by decide +kernel
theorem d_D_mergeApart_79 : decode c_D_mergeApart 79 = .ok (.getfield 16, 3) := by decide +kernel
theorem d_D_mergeApart_82 : decode c_D_mergeApart 82 = .ok (.iconst 0, 1) := by decide +kernel
theorem d_D_mergeApart_83 : decode c_D_mergeApart 83 = .ok (.bipush 16, 2) := by decide +kernel
theorem d_D_mergeApart_85 : decode c_D_mergeApart 85 = .ok (.invokestatic 139, 3) := by decide +kernel
theorem d_D_mergeApart_88 : decode c_D_mergeApart 88 = .ok (.aload_n 0, 1) := by decide +kernel
theorem d_D_mergeApart_89 : decode c_D_mergeApart 89 = .ok (.iload_n 1, 1) := by decide +kernel
theorem d_D_mergeApart_90 : decode c_D_mergeApart 90 = .ok (.putfield 47, 3) := by decide +kernel
theorem d_D_mergeApart_93 : decode c_D_mergeApart 93 = .ok (.aload_n 0, 1) := by decide +kernel
theorem d_D_mergeApart_94 : decode c_D_mergeApart 94 = .ok (.iload_n 2, 1) := by decide +kernel
theorem d_D_mergeApart_95 : decode c_D_mergeApart 95 = .ok (.putfield 43, 3) := by decide +kernel
theorem d_D_mergeApart_98 : decode c_D_mergeApart 98 = .ok (.bipush (-5), 2) := by decide +kernel
theorem d_D_mergeApart_100 : decode c_D_mergeApart 100 = .ok (.ireturn, 1) := by decide +kernel
theorem d_D_mixHereWith_0 : decode c_D_mixHereWith 0 = .ok (.iconst 0, 1) := by decide +kernel
theorem d_D_mixHereWith_1 : decode c_D_mixHereWith 1 = .ok (.istore_n 3, 1) := by decide +kernel
theorem d_D_mixHereWith_2 : decode c_D_mixHereWith 2 = .ok (.iconst 0, 1) := by decide +kernel
theorem d_D_mixHereWith_3 : decode c_D_mixHereWith 3 = .ok (.istore 4, 2) := by decide +kernel
theorem d_D_mixHereWith_5 : decode c_D_mixHereWith 5 = .ok (.iload 4, 2) := by decide +kernel
theorem d_D_mixHereWith_7 : decode c_D_mixHereWith 7 = .ok (.bipush 16, 2) := by decide +kernel
theorem d_D_mixHereWith_9 : decode c_D_mixHereWith 9 = .ok (.if_icmp .ge 97, 3) := by decide +kernel
theorem d_D_mixHereWith_12 : decode c_D_mixHereWith 12 = .ok (.aload_n 0, 1) := by decide +kernel
theorem d_D_mixHereWith_13 : decode c_D_mixHereWith 13 = .ok (.getfield 10, 3) := by decide +kernel
theorem d_D_mixHereWith_16 : decode c_D_mixHereWith 16 = .ok (.aload_n 0, 1) := by decide +kernel
theorem d_D_mixHereWith_17 : decode c_D_mixHereWith 17 = .ok (.invokevirtual 61, 3) := by decide +kernel
theorem d_D_mixHereWith_20 : decode c_D_mixHereWith 20 = .ok (.iload 4, 2) := by decide +kernel
theorem d_D_mixHereWith_22 : decode c_D_mixHereWith 22 = .ok (.invokevirtual 108, 3) := by decide +kernel
theorem d_D_mixHereWith_25 : decode c_D_mixHereWith 25 = .ok (.istore 5, 2) := by decide +kernel
theorem d_D_mixHereWith_27 : decode c_D_mixHereWith 27 = .ok (.aload_n 0, 1) := by decide +kernel
theorem d_D_mixHereWith_28 : decode c_D_mixHereWith 28 = .ok (.getfield 10, 3) := by decide +kernel
theorem d_D_mixHereWith_31 : decode c_D_mixHereWith 31 = .ok (.iload_n 1, 1) := by decide +kernel
theorem d_D_mixHereWith_32 : decode c_D_mixHereWith 32 = .ok (.iload 4, 2) := by decide +kernel
theorem d_D_mixHereWith_34 : decode c_D_mixHereWith 34 = .ok (.invokevirtual 108, 3) := by decide +kernel
theorem d_D_mixHereWith_37 : decode c_D_mixHereWith 37 = .ok (.istore 6, 2) := by decide +kernel
theorem d_D_mixHereWith_39 : decode c_D_mixHereWith 39 = .ok (.aload_n 0, 1) := by decide +kernel
theorem d_D_mixHereWith_40 : decode c_D_mixHereWith 40 = .ok (.getfield 10, 3) := by decide +kernel
theorem d_D_mixHereWith_43 : decode c_D_mixHereWith 43 = .ok (.iload_n 2, 1) := by decide +kernel
theorem d_D_mixHereWith_44 : decode c_D_mixHereWith 44 = .ok (.iload 4, 2) := by decide +kernel
theorem d_D_mixHereWith_46 : decode c_D_mixHereWith 46 = .ok (.invokevirtual 108, 3) := by decide +kernel
theorem d_D_mixHereWith_49 : decode c_D_mixHereWith 49 = .ok (.istore 7, 2) := by decide +kernel
theorem d_D_mixHereWith_51 : decode c_D_mixHereWith 51 = .ok (.aload_n 0, 1) := by decide +kernel
theorem d_D_mixHereWith_52 : decode c_D_mixHereWith 52 = .ok (.getfield 23, 3) := by decide +kernel
theorem d_D_mixHereWith_55 : decode c_D_mixHereWith 55 = .ok (.iload 4, 2) := by decide +kernel
theorem d_D_mixHereWith_57 : decode c_D_mixHereWith 57 = .ok (.iload 5, 2) := by decide +kernel
theorem d_D_mixHereWith_59 : decode c_D_mixHereWith 59 = .ok (.iload 7, 2) := by decide +kernel
theorem d_D_mixHereWith_61 : decode c_D_mixHereWith 61 = .ok (.if_icmp .ne 8, 3) := by decide +kernel
theorem d_D_mixHereWith_64 : decode c_D_mixHereWith 64 = .ok (.iload 6, 2) := by decide +kernel
theorem d_D_mixHereWith_66 : decode c_D_mixHereWith 66 = .ok (.goto 5, 3) := by decide +kernel
theorem d_D_mixHereWith_69 : decode c_D_mixHereWith 69 = .ok (.iload 5, 2) := by decide +kernel
theorem d_D_mixHereWith_71 : decode c_D_mixHereWith 71 = .ok (.iastore, 1) := by decide +kernel
theorem d_D_mixHereWith_72 : decode c_D_mixHereWith 72 = .ok (.iload 5, 2) := by decide +kernel
theorem d_D_mixHereWith_74 : decode c_D_mixHereWith 74 = .ok (.iload 6, 2) := by decide +kernel
theorem d_D_mixHereWith_76 : decode c_D_mixHereWith 76 = .ok (.if_icmp .eq 24, 3) := by decide +kernel
theorem d_D_mixHereWith_79 : decode c_D_mixHereWith 79 = .ok (.iload 5, 2) := by decide +kernel
theorem d_D_mixHereWith_81 : decode c_D_mixHereWith 81 = .ok (.iload 7, 2) := by decide +kernel
theorem d_D_mixHereWith_83 : decode c_D_mixHereWith 83 = .ok (.if_icmp .eq 17, 3) := by decide +kernel
theorem d_D_mixHereWith_86 : decode c_D_mixHereWith 86 = .ok (.iload 6, 2) := by decide +kernel
theorem d_D_mixHereWith_88 : decode c_D_mixHereWith 88 = .ok (.iload 7, 2) := by decide +kernel
theorem d_D_mixHereWith_90 : decode c_D_mixHereWith 90 = .ok (.if_icmp .eq 10, 3) := by decide +kernel
theorem d_D_mixHereWith_93 : decode c_D_mixHereWith 93 = .ok (.iload_n 3, 1) := by decide +kernel
theorem d_D_mixHereWith_94 : decode c_D_mixHereWith 94 = .ok (.iconst 1, 1) := by decide +kernel
theorem d_D_mixHereWith_95 : decode c_D_mixHereWith 95 = .ok (.iload 4, 2) := by decide +kernel
theorem d_D_mixHereWith_97 : decode c_D_mixHereWith 97 = .ok (.ishl, 1) := by decide +kernel
theorem d_D_mixHereWith_98 : decode c_D_mixHereWith 98 = .ok (.ior, 1) := by decide +kernel
theorem d_D_mixHereWith_99 : decode c_D_mixHereWith 99 = .ok (.istore_n 3, 1) := by decide +kernel
theorem d_D_mixHereWith_100 : decode c_D_mixHereWith 100 = .ok (.iinc 4 1, 3) := by decide +kernel
theorem d_D_mixHereWith_103 : decode c_D_mixHereWith 103 = .ok (.goto (-98), 3) := by decide +kernel
theorem d_D_mixHereWith_106 : decode c_D_mixHereWith 106 = .ok (.iload_n 3, 1) := by decide +kernel
theorem d_D_mixHereWith_107 : decode c_D_mixHereWith 107 = .ok (.ireturn, 1) := by decide +kernel
theorem d_M_init_0 : decode c_M_init 0 = .ok (.aload_n 0, 1) := by decide +kernel
theorem d_M_init_1 : decode c_M_init 1 = .ok (.invokespecial 1, 3) := by decide +kernel
theorem d_M_init_4 : decode c_M_init 4 = .ok (.aload_n 0, 1) := by decide +kernel
theorem d_M_init_5 : decode c_M_init 5 = .ok (.sipush 544, 3) := by decide +kernel
theorem d_M_init_8 : decode c_M_init 8 = .ok (.newarray .int, 2) := by decide +kernel
theorem d_M_init_10 : decode c_M_init 10 = .ok (.putfield 7, 3) := by decide +kernel
theorem d_M_init_13 : decode c_M_init 13 = .ok (.aload_n 0, 1) := by decide +kernel
theorem d_M_init_14 : decode c_M_init 14 = .ok (.bipush 31, 2) := by decide +kernel
theorem d_M_init_16 : decode c_M_init 16 = .ok (.newarray .boolean, 2) := by decide +kernel
theorem d_M_init_18 : decode c_M_init 18 = .ok (.putfield 13, 3) := by decide +kernel
theorem d_M_init_21 : decode c_M_init 21 = .ok (.aload_n 0, 1) := by decide +kernel
theorem d_M_init_22 : decode c_M_init 22 = .ok (.bipush 31, 2) := by decide +kernel
theorem d_M_init_24 : decode c_M_init 24 = .ok (.newarray .int, 2) := by decide +kernel
theorem d_M_init_26 : decode c_M_init 26 = .ok (.putfield 17, 3) := by decide +kernel
theorem d_M_init_29 : decode c_M_init 29 = .ok (.aload_n 0, 1) := by decide +kernel
theorem d_M_init_30 : decode c_M_init 30 = .ok (.bipush 31, 2) := by decide +kernel
theorem d_M_init_32 : decode c_M_init 32 = .ok (.newarray .int, 2) := by decide +kernel
theorem d_M_init_34 : decode c_M_init 34 = .ok (.putfield 20, 3) := by decide +kernel
theorem d_M_init_37 : decode c_M_init 37 = .ok (.aload_n 0, 1) := by decide +kernel
theorem d_M_init_38 : decode c_M_init 38 = .ok (.bipush 6, 2) := by decide +kernel
theorem d_M_init_40 : decode c_M_init 40 = .ok (.newarray .int, 2) := by decide +kernel
theorem d_M_init_42 : decode c_M_init 42 = .ok (.putfield 23, 3) := by decide +kernel
theorem d_M_init_45 : decode c_M_init 45 = .ok (.aload_n 0, 1) := by decide +kernel
theorem d_M_init_46 : decode c_M_init 46 = .ok (.bipush 16, 2) := by decide +kernel
theorem d_M_init_48 : decode c_M_init 48 = .ok (.newarray .boolean, 2) := by decide +kernel
theorem d_M_init_50 : decode c_M_init 50 = .ok (.putfield 26, 3) := by decide +kernel
theorem d_M_init_53 : decode c_M_init 53 = .ok (.aload_n 0, 1) := by decide +kernel
theorem d_M_init_54 : decode c_M_init 54 = .ok (.sipush 10000, 3) := by decide +kernel
theorem d_M_init_57 : decode c_M_init 57 = .ok (.newarray .boolean, 2) := by decide +kernel
theorem d_M_init_59 : decode c_M_init 59 = .ok (.putfield 29, 3) := by decide +kernel
theorem d_M_init_62 : decode c_M_init 62 = .ok (.aload_n 0, 1) := by decide +kernel
theorem d_M_init_63 : decode c_M_init 63 = .ok (.bipush 31, 2) := by decide +kernel
theorem d_M_init_65 : decode c_M_init 65 = .ok (.newarray .boolean, 2) := by decide +kernel
theorem d_M_init_67 : decode c_M_init 67 = .ok (.putfield 32, 3) := by decide +kernel
theorem d_M_init_70 : decode c_M_init 70 = .ok (.aload_n 0, 1) := by decide +kernel
theorem d_M_init_71 : decode c_M_init 71 = .ok (.bipush 31, 2) := by decide +kernel
theorem d_M_init_73 : decode c_M_init 73 = .ok (.newarray .boolean, 2) := by decide +kernel
theorem d_M_init_75 : decode c_M_init 75 = .ok (.putfield 35, 3) := by decide +kernel
theorem d_M_init_78 : decode c_M_init 78 = .ok (.return_, 1) := by decide +kernel
theorem d_M_in_0 : decode c_M_in 0 = .ok (.iload_n 0, 1) := by decide +kernel
theorem d_M_in_1 : decode c_M_in 1 = .ok (.iload_n 1, 1) := by decide +kernel
theorem d_M_in_2 : decode c_M_in 2 = .ok (.if_icmp .lt 12, 3) := by decide +kernel
theorem d_M_in_5 : decode c_M_in 5 = .ok (.iload_n 0, 1) := by decide +kernel
theorem d_M_in_6 : decode c_M_in 6 = .ok (.iload_n 2, 1) := by decide +kernel
theorem d_M_in_7 : decode c_M_in 7 = .ok (.if_icmp .gt 7, 3) := by decide +kernel
theorem d_M_in_10 : decode c_M_in 10 = .ok (.iconst 1, 1) := by decide +kernel
theorem d_M_in_11 : decode c_M_in 11 = .ok (.goto 4, 3) := by decide +kernel
theorem d_M_in_14 : decode c_M_in 14 = .ok (.iconst 0, 1) := by decide +kernel
theorem d_M_in_15 : decode c_M_in 15 = .ok (.ireturn, 1) := by decide +kernel
theorem d_M_here_0 : decode c_M_here 0 = .ok (.aload_n 0, 1) := by decide +kernel
theorem d_M_here_1 : decode c_M_here 1 = .ok (.getfield 23, 3) := by decide +kernel
theorem d_M_here_4 : decode c_M_here 4 = .ok (.aload_n 0, 1) := by decide +kernel
theorem d_M_here_5 : decode c_M_here 5 = .ok (.getfield 38, 3) := by decide +kernel
theorem d_M_here_8 : decode c_M_here 8 = .ok (.iaload, 1) := by decide +kernel
theorem d_M_here_9 : decode c_M_here 9 = .ok (.ireturn, 1) := by decide +kernel
theorem d_M_isStored_0 : decode c_M_isStored 0 = .ok (.iload_n 1, 1) := by decide +kernel
theorem d_M_isStored_1 : decode c_M_isStored 1 = .ok (.iconst 1, 1) := by decide +kernel
theorem d_M_isStored_2 : decode c_M_isStored 2 = .ok (.bipush 30, 2) := by decide +kernel
theorem d_M_isStored_4 : decode c_M_isStored 4 = .ok (.invokestatic 42, 3) := by decide +kernel
theorem d_M_isStored_7 : decode c_M_isStored 7 = .ok (.ifCond .eq 16, 3) := by decide +kernel
theorem d_M_isStored_10 : decode c_M_isStored 10 = .ok (.aload_n 0, 1) := by decide +kernel
theorem d_M_isStored_11 : decode c_M_isStored 11 = .ok (.getfield 13, 3) := by decide +kernel
theorem d_M_isStored_14 : decode c_M_isStored 14 = .ok (.iload_n 1, 1) := by decide +kernel
theorem d_M_isStored_15 : decode c_M_isStored 15 = .ok (.baload, 1) := by decide +kernel
theorem d_M_isStored_16 : decode c_M_isStored 16 = .ok (.ifCond .eq 7, 3) := by decide +kernel
theorem d_M_isStored_19 : decode c_M_isStored 19 = .ok (.iconst 1, 1) := by decide +kernel
theorem d_M_isStored_20 : decode c_M_isStored 20 = .ok (.goto 4, 3) := by decide +kernel
theorem d_M_isStored_23 : decode c_M_isStored 23 = .ok (.iconst 0, 1) := by decide +kernel
theorem d_M_isStored_24 : decode c_M_isStored 24 = .ok (.ireturn, 1) := by decide +kernel
theorem d_M_same_0 : decode c_M_same 0 = .ok (.iconst 0, 1) := by decide +kernel
theorem d_M_same_1 : decode c_M_same 1 = .ok (.istore_n 3, 1) := by decide +kernel
theorem d_M_same_2 : decode c_M_same 2 = .ok (.iload_n 3, 1) := by decide +kernel
theorem d_M_same_3 : decode c_M_same 3 = .ok (.bipush 16, 2) := by decide +kernel
theorem d_M_same_5 : decode c_M_same 5 = .ok (.if_icmp .ge 36, 3) := by decide +kernel
theorem d_M_same_8 : decode c_M_same 8 = .ok (.aload_n 0, 1) := by decide +kernel
theorem d_M_same_9 : decode c_M_same 9 = .ok (.getfield 7, 3) := by decide +kernel
theorem d_M_same_12 : decode c_M_same 12 = .ok (.bipush 16, 2) := by decide +kernel
theorem d_M_same_14 : decode c_M_same 14 = .ok (.iload_n 1, 1) := by decide +kernel
theorem d_M_same_15 : decode c_M_same 15 = .ok (.imul, 1) := by decide +kernel
theorem d_M_same_16 : decode c_M_same 16 = .ok (.iload_n 3, 1) := by decide +kernel
theorem d_M_same_17 : decode c_M_same 17 = .ok (.iadd, 1) := by decide +kernel
theorem d_M_same_18 : decode c_M_same 18 = .ok (.iaload, 1) := by decide +kernel
theorem d_M_same_19 : decode c_M_same 19 = .ok (.aload_n 0, 1) := by decide +kernel
theorem d_M_same_20 : decode c_M_same 20 = .ok (.getfield 7, 3) := by decide +kernel
theorem d_M_same_23 : decode c_M_same 23 = .ok (.bipush 16, 2) := by decide +kernel
theorem d_M_same_25 : decode c_M_same 25 = .ok (.iload_n 2, 1) := by decide +kernel
theorem d_M_same_26 : decode c_M_same 26 = .ok (.imul, 1) := by decide +kernel
theorem d_M_same_27 : decode c_M_same 27 = .ok (.iload_n 3, 1) := by decide +kernel
theorem d_M_same_28 : decode c_M_same 28 = .ok (.iadd, 1) := by decide +kernel
theorem d_M_same_29 : decode c_M_same 29 = .ok (.iaload, 1) := by decide +kernel
theorem d_M_same_30 : decode c_M_same 30 = .ok (.if_icmp .eq 5, 3) := by decide +kernel
theorem d_M_same_33 : decode c_M_same 33 = .ok (.iconst 0, 1) := by decide +kernel
theorem d_M_same_34 : decode c_M_same 34 = .ok (.ireturn, 1) := by decide +kernel
theorem d_M_same_35 : decode c_M_same 35 = .ok (.iinc 3 1, 3) := by decide +kernel
theorem d_M_same_38 : decode c_M_same 38 = .ok (.goto (-36), 3) := by decide +kernel
theorem d_M_same_41 : decode c_M_same 41 = .ok (.iconst 1, 1) := by decide +kernel
theorem d_M_same_42 : decode c_M_same 42 = .ok (.ireturn, 1) := by decide +kernel
theorem d_M_copy_0 : decode c_M_copy 0 = .ok (.iconst 0, 1) := by decide +kernel
theorem d_M_copy_1 : decode c_M_copy 1 = .ok (.istore_n 3, 1) := by decide +kernel
theorem d_M_copy_2 : decode c_M_copy 2 = .ok (.iload_n 3, 1) := by decide +kernel
theorem d_M_copy_3 : decode c_M_copy 3 = .ok (.bipush 16, 2) := by decide +kernel
theorem d_M_copy_5 : decode c_M_copy 5 = .ok (.if_icmp .ge 31, 3) := by decide +kernel
theorem d_M_copy_8 : decode c_M_copy 8 = .ok (.aload_n 0, 1) := by decide +kernel
theorem d_M_copy_9 : decode c_M_copy 9 = .ok (.getfield 7, 3) := by decide +kernel
theorem d_M_copy_12 : decode c_M_copy 12 = .ok (.bipush 16, 2) := by decide +kernel
theorem d_M_copy_14 : decode c_M_copy 14 = .ok (.iload_n 2, 1) := by decide +kernel
theorem d_M_copy_15 : decode c_M_copy 15 = .ok (.imul, 1) := by decide +kernel
theorem d_M_copy_16 : decode c_M_copy 16 = .ok (.iload_n 3, 1) := by decide +kernel
theorem d_M_copy_17 : decode c_M_copy 17 = .ok (.iadd, 1) := by decide +kernel
theorem d_M_copy_18 : decode c_M_copy 18 = .ok (.aload_n 0, 1) := by decide +kernel
theorem d_M_copy_19 : decode c_M_copy 19 = .ok (.getfield 7, 3) := by decide +kernel
