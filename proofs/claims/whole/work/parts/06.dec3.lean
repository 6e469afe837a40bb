theorem d_M_sweep_17 : decode c_M_sweep 17 = .ok (.iload_n 2, 1) := by decide +kernel
theorem d_M_sweep_18 : decode c_M_sweep 18 = .ok (.iconst 0, 1) := by decide +kernel
theorem d_M_sweep_19 : decode c_M_sweep 19 = .ok (.bastore, 1) := by decide +kernel
theorem d_M_sweep_20 : decode c_M_sweep 20 = .ok (.iinc 2 1, 3) := by decide +kernel
theorem d_M_sweep_23 : decode c_M_sweep 23 = .ok (.goto (-16), 3) := by decide +kernel
theorem d_M_sweep_26 : decode c_M_sweep 26 = .ok (.iconst 0, 1) := by decide +kernel
theorem d_M_sweep_27 : decode c_M_sweep 27 = .ok (.istore_n 2, 1) := by decide +kernel
theorem d_M_sweep_28 : decode c_M_sweep 28 = .ok (.iload_n 2, 1) := by decide +kernel
theorem d_M_sweep_29 : decode c_M_sweep 29 = .ok (.bipush 7, 2) := by decide +kernel
theorem d_M_sweep_31 : decode c_M_sweep 31 = .ok (.if_icmp .ge 62, 3) := by decide +kernel
theorem d_M_sweep_34 : decode c_M_sweep 34 = .ok (.aload_n 0, 1) := by decide +kernel
theorem d_M_sweep_35 : decode c_M_sweep 35 = .ok (.iload_n 2, 1) := by decide +kernel
theorem d_M_sweep_36 : decode c_M_sweep 36 = .ok (.bipush 6, 2) := by decide +kernel
theorem d_M_sweep_38 : decode c_M_sweep 38 = .ok (.if_icmp .ge 12, 3) := by decide +kernel
theorem d_M_sweep_41 : decode c_M_sweep 41 = .ok (.aload_n 0, 1) := by decide +kernel
theorem d_M_sweep_42 : decode c_M_sweep 42 = .ok (.getfield 23, 3) := by decide +kernel
theorem d_M_sweep_45 : decode c_M_sweep 45 = .ok (.iload_n 2, 1) := by decide +kernel
theorem d_M_sweep_46 : decode c_M_sweep 46 = .ok (.iaload, 1) := by decide +kernel
theorem d_M_sweep_47 : decode c_M_sweep 47 = .ok (.goto 7, 3) := by decide +kernel
theorem d_M_sweep_50 : decode c_M_sweep 50 = .ok (.aload_n 0, 1) := by decide +kernel
theorem d_M_sweep_51 : decode c_M_sweep 51 = .ok (.getfield 64, 3) := by decide +kernel
theorem d_M_sweep_54 : decode c_M_sweep 54 = .ok (.invokevirtual 79, 3) := by decide +kernel
theorem d_M_sweep_57 : decode c_M_sweep 57 = .ok (.iconst 1, 1) := by decide +kernel
theorem d_M_sweep_58 : decode c_M_sweep 58 = .ok (.istore_n 3, 1) := by decide +kernel
theorem d_M_sweep_59 : decode c_M_sweep 59 = .ok (.iload_n 3, 1) := by decide +kernel
theorem d_M_sweep_60 : decode c_M_sweep 60 = .ok (.bipush 31, 2) := by decide +kernel
theorem d_M_sweep_62 : decode c_M_sweep 62 = .ok (.if_icmp .ge 25, 3) := by decide +kernel
theorem d_M_sweep_65 : decode c_M_sweep 65 = .ok (.aload_n 0, 1) := by decide +kernel
theorem d_M_sweep_66 : decode c_M_sweep 66 = .ok (.getfield 32, 3) := by decide +kernel
theorem d_M_sweep_69 : decode c_M_sweep 69 = .ok (.iload_n 3, 1) := by decide +kernel
theorem d_M_sweep_70 : decode c_M_sweep 70 = .ok (.baload, 1) := by decide +kernel
theorem d_M_sweep_71 : decode c_M_sweep 71 = .ok (.ifCond .eq 10, 3) := by decide +kernel
theorem d_M_sweep_74 : decode c_M_sweep 74 = .ok (.aload_n 0, 1) := by decide +kernel
theorem d_M_sweep_75 : decode c_M_sweep 75 = .ok (.getfield 35, 3) := by decide +kernel
theorem d_M_sweep_78 : decode c_M_sweep 78 = .ok (.iload_n 3, 1) := by decide +kernel
theorem d_M_sweep_79 : decode c_M_sweep 79 = .ok (.iconst 1, 1) := by decide +kernel
theorem d_M_sweep_80 : decode c_M_sweep 80 = .ok (.bastore, 1) := by decide +kernel
theorem d_M_sweep_81 : decode c_M_sweep 81 = .ok (.iinc 3 1, 3) := by decide +kernel
theorem d_M_sweep_84 : decode c_M_sweep 84 = .ok (.goto (-25), 3) := by decide +kernel
theorem d_M_sweep_87 : decode c_M_sweep 87 = .ok (.iinc 2 1, 3) := by decide +kernel
theorem d_M_sweep_90 : decode c_M_sweep 90 = .ok (.goto (-62), 3) := by decide +kernel
theorem d_M_sweep_93 : decode c_M_sweep 93 = .ok (.iconst 0, 1) := by decide +kernel
theorem d_M_sweep_94 : decode c_M_sweep 94 = .ok (.istore_n 2, 1) := by decide +kernel
theorem d_M_sweep_95 : decode c_M_sweep 95 = .ok (.iload_n 2, 1) := by decide +kernel
theorem d_M_sweep_96 : decode c_M_sweep 96 = .ok (.sipush 10000, 3) := by decide +kernel
theorem d_M_sweep_99 : decode c_M_sweep 99 = .ok (.if_icmp .ge 16, 3) := by decide +kernel
theorem d_M_sweep_102 : decode c_M_sweep 102 = .ok (.aload_n 0, 1) := by decide +kernel
theorem d_M_sweep_103 : decode c_M_sweep 103 = .ok (.getfield 29, 3) := by decide +kernel
theorem d_M_sweep_106 : decode c_M_sweep 106 = .ok (.iload_n 2, 1) := by decide +kernel
theorem d_M_sweep_107 : decode c_M_sweep 107 = .ok (.iconst 0, 1) := by decide +kernel
theorem d_M_sweep_108 : decode c_M_sweep 108 = .ok (.bastore, 1) := by decide +kernel
theorem d_M_sweep_109 : decode c_M_sweep 109 = .ok (.iinc 2 1, 3) := by decide +kernel
theorem d_M_sweep_112 : decode c_M_sweep 112 = .ok (.goto (-17), 3) := by decide +kernel
theorem d_M_sweep_115 : decode c_M_sweep 115 = .ok (.iconst 1, 1) := by decide +kernel
theorem d_M_sweep_116 : decode c_M_sweep 116 = .ok (.istore_n 2, 1) := by decide +kernel
theorem d_M_sweep_117 : decode c_M_sweep 117 = .ok (.iload_n 2, 1) := by decide +kernel
theorem d_M_sweep_118 : decode c_M_sweep 118 = .ok (.bipush 31, 2) := by decide +kernel
theorem d_M_sweep_120 : decode c_M_sweep 120 = .ok (.if_icmp .ge 61, 3) := by decide +kernel
theorem d_M_sweep_123 : decode c_M_sweep 123 = .ok (.aload_n 0, 1) := by decide +kernel
theorem d_M_sweep_124 : decode c_M_sweep 124 = .ok (.getfield 13, 3) := by decide +kernel
theorem d_M_sweep_127 : decode c_M_sweep 127 = .ok (.iload_n 2, 1) := by decide +kernel
theorem d_M_sweep_128 : decode c_M_sweep 128 = .ok (.aload_n 0, 1) := by decide +kernel
theorem d_M_sweep_129 : decode c_M_sweep 129 = .ok (.getfield 35, 3) := by decide +kernel
theorem d_M_sweep_132 : decode c_M_sweep 132 = .ok (.iload_n 2, 1) := by decide +kernel
theorem d_M_sweep_133 : decode c_M_sweep 133 = .ok (.baload, 1) := by decide +kernel
theorem d_M_sweep_134 : decode c_M_sweep 134 = .ok (.bastore, 1) := by decide +kernel
theorem d_M_sweep_135 : decode c_M_sweep 135 = .ok (.iconst 0, 1) := by decide +kernel
theorem d_M_sweep_136 : decode c_M_sweep 136 = .ok (.istore_n 3, 1) := by decide +kernel
theorem d_M_sweep_137 : decode c_M_sweep 137 = .ok (.iload_n 3, 1) := by decide +kernel
theorem d_M_sweep_138 : decode c_M_sweep 138 = .ok (.bipush 16, 2) := by decide +kernel
theorem d_M_sweep_140 : decode c_M_sweep 140 = .ok (.if_icmp .ge 35, 3) := by decide +kernel
theorem d_M_sweep_143 : decode c_M_sweep 143 = .ok (.aload_n 0, 1) := by decide +kernel
theorem d_M_sweep_144 : decode c_M_sweep 144 = .ok (.getfield 13, 3) := by decide +kernel
theorem d_M_sweep_147 : decode c_M_sweep 147 = .ok (.iload_n 2, 1) := by decide +kernel
theorem d_M_sweep_148 : decode c_M_sweep 148 = .ok (.baload, 1) := by decide +kernel
theorem d_M_sweep_149 : decode c_M_sweep 149 = .ok (.ifCond .eq 20, 3) := by decide +kernel
theorem d_M_sweep_152 : decode c_M_sweep 152 = .ok (.aload_n 0, 1) := by decide +kernel
theorem d_M_sweep_153 : decode c_M_sweep 153 = .ok (.getfield 29, 3) := by decide +kernel
theorem d_M_sweep_156 : decode c_M_sweep 156 = .ok (.aload_n 0, 1) := by decide +kernel
theorem d_M_sweep_157 : decode c_M_sweep 157 = .ok (.getfield 7, 3) := by decide +kernel
theorem d_M_sweep_160 : decode c_M_sweep 160 = .ok (.bipush 16, 2) := by decide +kernel
theorem d_M_sweep_162 : decode c_M_sweep 162 = .ok (.iload_n 2, 1) := by decide +kernel
theorem d_M_sweep_163 : decode c_M_sweep 163 = .ok (.imul, 1) := by decide +kernel
theorem d_M_sweep_164 : decode c_M_sweep 164 = .ok (.iload_n 3, 1) := by decide +kernel
theorem d_M_sweep_165 : decode c_M_sweep 165 = .ok (.iadd, 1) := by decide +kernel
theorem d_M_sweep_166 : decode c_M_sweep 166 = .ok (.iaload, 1) := by decide +kernel
theorem d_M_sweep_167 : decode c_M_sweep 167 = .ok (.iconst 1, 1) := by decide +kernel
theorem d_M_sweep_168 : decode c_M_sweep 168 = .ok (.bastore, 1) := by decide +kernel
theorem d_M_sweep_169 : decode c_M_sweep 169 = .ok (.iinc 3 1, 3) := by decide +kernel
theorem d_M_sweep_172 : decode c_M_sweep 172 = .ok (.goto (-35), 3) := by decide +kernel
theorem d_M_sweep_175 : decode c_M_sweep 175 = .ok (.iinc 2 1, 3) := by decide +kernel
theorem d_M_sweep_178 : decode c_M_sweep 178 = .ok (.goto (-61), 3) := by decide +kernel
theorem d_M_sweep_181 : decode c_M_sweep 181 = .ok (.iconst 0, 1) := by decide +kernel
theorem d_M_sweep_182 : decode c_M_sweep 182 = .ok (.istore_n 2, 1) := by decide +kernel
theorem d_M_sweep_183 : decode c_M_sweep 183 = .ok (.iload_n 2, 1) := by decide +kernel
theorem d_M_sweep_184 : decode c_M_sweep 184 = .ok (.bipush 16, 2) := by decide +kernel
theorem d_M_sweep_186 : decode c_M_sweep 186 = .ok (.if_icmp .ge 25, 3) := by decide +kernel
theorem d_M_sweep_189 : decode c_M_sweep 189 = .ok (.aload_n 0, 1) := by decide +kernel
theorem d_M_sweep_190 : decode c_M_sweep 190 = .ok (.getfield 29, 3) := by decide +kernel
theorem d_M_sweep_193 : decode c_M_sweep 193 = .ok (.aload_n 0, 1) := by decide +kernel
theorem d_M_sweep_194 : decode c_M_sweep 194 = .ok (.getfield 7, 3) := by decide +kernel
theorem d_M_sweep_197 : decode c_M_sweep 197 = .ok (.sipush 512, 3) := by decide +kernel
theorem d_M_sweep_200 : decode c_M_sweep 200 = .ok (.iload_n 2, 1) := by decide +kernel
theorem d_M_sweep_201 : decode c_M_sweep 201 = .ok (.iadd, 1) := by decide +kernel
theorem d_M_sweep_202 : decode c_M_sweep 202 = .ok (.iaload, 1) := by decide +kernel
theorem d_M_sweep_203 : decode c_M_sweep 203 = .ok (.iconst 1, 1) := by decide +kernel
theorem d_M_sweep_204 : decode c_M_sweep 204 = .ok (.bastore, 1) := by decide +kernel
theorem d_M_sweep_205 : decode c_M_sweep 205 = .ok (.iinc 2 1, 3) := by decide +kernel
theorem d_M_sweep_208 : decode c_M_sweep 208 = .ok (.goto (-25), 3) := by decide +kernel
theorem d_M_sweep_211 : decode c_M_sweep 211 = .ok (.aload_n 0, 1) := by decide +kernel
theorem d_M_sweep_212 : decode c_M_sweep 212 = .ok (.getfield 29, 3) := by decide +kernel
theorem d_M_sweep_215 : decode c_M_sweep 215 = .ok (.iconst 0, 1) := by decide +kernel
theorem d_M_sweep_216 : decode c_M_sweep 216 = .ok (.iconst 0, 1) := by decide +kernel
theorem d_M_sweep_217 : decode c_M_sweep 217 = .ok (.bastore, 1) := by decide +kernel
theorem d_M_sweep_218 : decode c_M_sweep 218 = .ok (.iload_n 1, 1) := by decide +kernel
theorem d_M_sweep_219 : decode c_M_sweep 219 = .ok (.aload_n 0, 1) := by decide +kernel
theorem d_M_sweep_220 : decode c_M_sweep 220 = .ok (.invokevirtual 98, 3) := by decide +kernel
theorem d_M_sweep_223 : decode c_M_sweep 223 = .ok (.isub, 1) := by decide +kernel
theorem d_M_sweep_224 : decode c_M_sweep 224 = .ok (.ireturn, 1) := by decide +kernel
theorem d_M_content_0 : decode c_M_content 0 = .ok (.iload_n 1, 1) := by decide +kernel
theorem d_M_content_1 : decode c_M_content 1 = .ok (.iconst 0, 1) := by decide +kernel
theorem d_M_content_2 : decode c_M_content 2 = .ok (.iconst 1, 1) := by decide +kernel
theorem d_M_content_3 : decode c_M_content 3 = .ok (.invokestatic 42, 3) := by decide +kernel
theorem d_M_content_6 : decode c_M_content 6 = .ok (.ifCond .eq 30, 3) := by decide +kernel
theorem d_M_content_9 : decode c_M_content 9 = .ok (.iload_n 2, 1) := by decide +kernel
theorem d_M_content_10 : decode c_M_content 10 = .ok (.iconst 0, 1) := by decide +kernel
theorem d_M_content_11 : decode c_M_content 11 = .ok (.bipush 15, 2) := by decide +kernel
theorem d_M_content_13 : decode c_M_content 13 = .ok (.invokestatic 42, 3) := by decide +kernel
theorem d_M_content_16 : decode c_M_content 16 = .ok (.ifCond .eq 20, 3) := by decide +kernel
theorem d_M_content_19 : decode c_M_content 19 = .ok (.aload_n 0, 1) := by decide +kernel
theorem d_M_content_20 : decode c_M_content 20 = .ok (.getfield 7, 3) := by decide +kernel
theorem d_M_content_23 : decode c_M_content 23 = .ok (.bipush 16, 2) := by decide +kernel
theorem d_M_content_25 : decode c_M_content 25 = .ok (.bipush 31, 2) := by decide +kernel
theorem d_M_content_27 : decode c_M_content 27 = .ok (.iload_n 1, 1) := by decide +kernel
theorem d_M_content_28 : decode c_M_content 28 = .ok (.iadd, 1) := by decide +kernel
theorem d_M_content_29 : decode c_M_content 29 = .ok (.imul, 1) := by decide +kernel
theorem d_M_content_30 : decode c_M_content 30 = .ok (.iload_n 2, 1) := by decide +kernel
theorem d_M_content_31 : decode c_M_content 31 = .ok (.iadd, 1) := by decide +kernel
theorem d_M_content_32 : decode c_M_content 32 = .ok (.iaload, 1) := by decide +kernel
theorem d_M_content_33 : decode c_M_content 33 = .ok (.goto 4, 3) := by decide +kernel
theorem d_M_content_36 : decode c_M_content 36 = .ok (.iconst (-1), 1) := by decide +kernel
theorem d_M_content_37 : decode c_M_content 37 = .ok (.ireturn, 1) := by decide +kernel
theorem d_M_at_0 : decode c_M_at 0 = .ok (.aload_n 0, 1) := by decide +kernel
theorem d_M_at_1 : decode c_M_at 1 = .ok (.iload_n 1, 1) := by decide +kernel
theorem d_M_at_2 : decode c_M_at 2 = .ok (.invokevirtual 90, 3) := by decide +kernel
theorem d_M_at_5 : decode c_M_at 5 = .ok (.ifCond .eq 27, 3) := by decide +kernel
theorem d_M_at_8 : decode c_M_at 8 = .ok (.iload_n 2, 1) := by decide +kernel
theorem d_M_at_9 : decode c_M_at 9 = .ok (.iconst 0, 1) := by decide +kernel
theorem d_M_at_10 : decode c_M_at 10 = .ok (.bipush 15, 2) := by decide +kernel
theorem d_M_at_12 : decode c_M_at 12 = .ok (.invokestatic 42, 3) := by decide +kernel
theorem d_M_at_15 : decode c_M_at 15 = .ok (.ifCond .eq 17, 3) := by decide +kernel
theorem d_M_at_18 : decode c_M_at 18 = .ok (.aload_n 0, 1) := by decide +kernel
theorem d_M_at_19 : decode c_M_at 19 = .ok (.getfield 7, 3) := by decide +kernel
theorem d_M_at_22 : decode c_M_at 22 = .ok (.bipush 16, 2) := by decide +kernel
theorem d_M_at_24 : decode c_M_at 24 = .ok (.iload_n 1, 1) := by decide +kernel
theorem d_M_at_25 : decode c_M_at 25 = .ok (.imul, 1) := by decide +kernel
theorem d_M_at_26 : decode c_M_at 26 = .ok (.iload_n 2, 1) := by decide +kernel
theorem d_M_at_27 : decode c_M_at 27 = .ok (.iadd, 1) := by decide +kernel
theorem d_M_at_28 : decode c_M_at 28 = .ok (.iaload, 1) := by decide +kernel
theorem d_M_at_29 : decode c_M_at 29 = .ok (.goto 4, 3) := by decide +kernel
theorem d_M_at_32 : decode c_M_at 32 = .ok (.iconst (-1), 1) := by decide +kernel
theorem d_M_at_33 : decode c_M_at 33 = .ok (.ireturn, 1) := by decide +kernel
theorem d_M_parent_0 : decode c_M_parent 0 = .ok (.aload_n 0, 1) := by decide +kernel
theorem d_M_parent_1 : decode c_M_parent 1 = .ok (.iload_n 1, 1) := by decide +kernel
theorem d_M_parent_2 : decode c_M_parent 2 = .ok (.invokevirtual 90, 3) := by decide +kernel
theorem d_M_parent_5 : decode c_M_parent 5 = .ok (.ifCond .eq 12, 3) := by decide +kernel
theorem d_M_parent_8 : decode c_M_parent 8 = .ok (.iload_n 2, 1) := by decide +kernel
theorem d_M_parent_9 : decode c_M_parent 9 = .ok (.iconst 0, 1) := by decide +kernel
theorem d_M_parent_10 : decode c_M_parent 10 = .ok (.iconst 1, 1) := by decide +kernel
theorem d_M_parent_11 : decode c_M_parent 11 = .ok (.invokestatic 42, 3) := by decide +kernel
theorem d_M_parent_14 : decode c_M_parent 14 = .ok (.ifCond .ne 7, 3) := by decide +kernel
theorem d_M_parent_17 : decode c_M_parent 17 = .ok (.iconst (-1), 1) := by decide +kernel
theorem d_M_parent_18 : decode c_M_parent 18 = .ok (.goto 22, 3) := by decide +kernel
theorem d_M_parent_21 : decode c_M_parent 21 = .ok (.iload_n 2, 1) := by decide +kernel
theorem d_M_parent_22 : decode c_M_parent 22 = .ok (.ifCond .ne 12, 3) := by decide +kernel
theorem d_M_parent_25 : decode c_M_parent 25 = .ok (.aload_n 0, 1) := by decide +kernel
theorem d_M_parent_26 : decode c_M_parent 26 = .ok (.getfield 17, 3) := by decide +kernel
theorem d_M_parent_29 : decode c_M_parent 29 = .ok (.iload_n 1, 1) := by decide +kernel
theorem d_M_parent_30 : decode c_M_parent 30 = .ok (.iaload, 1) := by decide +kernel
theorem d_M_parent_31 : decode c_M_parent 31 = .ok (.goto 9, 3) := by decide +kernel
theorem d_M_parent_34 : decode c_M_parent 34 = .ok (.aload_n 0, 1) := by decide +kernel
theorem d_M_parent_35 : decode c_M_parent 35 = .ok (.getfield 20, 3) := by decide +kernel
theorem d_M_parent_38 : decode c_M_parent 38 = .ok (.iload_n 1, 1) := by decide +kernel
theorem d_M_parent_39 : decode c_M_parent 39 = .ok (.iaload, 1) := by decide +kernel
theorem d_M_parent_40 : decode c_M_parent 40 = .ok (.ireturn, 1) := by decide +kernel
theorem d_M_branchAt_0 : decode c_M_branchAt 0 = .ok (.iload_n 1, 1) := by decide +kernel
theorem d_M_branchAt_1 : decode c_M_branchAt 1 = .ok (.iconst 0, 1) := by decide +kernel
theorem d_M_branchAt_2 : decode c_M_branchAt 2 = .ok (.iconst 5, 1) := by decide +kernel
theorem d_M_branchAt_3 : decode c_M_branchAt 3 = .ok (.invokestatic 42, 3) := by decide +kernel
theorem d_M_branchAt_6 : decode c_M_branchAt 6 = .ok (.ifCond .eq 12, 3) := by decide +kernel
theorem d_M_branchAt_9 : decode c_M_branchAt 9 = .ok (.aload_n 0, 1) := by decide +kernel
theorem d_M_branchAt_10 : decode c_M_branchAt 10 = .ok (.getfield 23, 3) := by decide +kernel
theorem d_M_branchAt_13 : decode c_M_branchAt 13 = .ok (.iload_n 1, 1) := by decide +kernel
theorem d_M_branchAt_14 : decode c_M_branchAt 14 = .ok (.iaload, 1) := by decide +kernel
theorem d_M_branchAt_15 : decode c_M_branchAt 15 = .ok (.goto 4, 3) := by decide +kernel
theorem d_M_branchAt_18 : decode c_M_branchAt 18 = .ok (.iconst (-1), 1) := by decide +kernel
theorem d_M_branchAt_19 : decode c_M_branchAt 19 = .ok (.ireturn, 1) := by decide +kernel
theorem d_M_common_0 : decode c_M_common 0 = .ok (.aload_n 0, 1) := by decide +kernel
theorem d_M_common_1 : decode c_M_common 1 = .ok (.iload_n 1, 1) := by decide +kernel
theorem d_M_common_2 : decode c_M_common 2 = .ok (.invokevirtual 90, 3) := by decide +kernel
theorem d_M_common_5 : decode c_M_common 5 = .ok (.ifCond .eq 20, 3) := by decide +kernel
theorem d_M_common_8 : decode c_M_common 8 = .ok (.aload_n 0, 1) := by decide +kernel
theorem d_M_common_9 : decode c_M_common 9 = .ok (.iload_n 2, 1) := by decide +kernel
theorem d_M_common_10 : decode c_M_common 10 = .ok (.invokevirtual 90, 3) := by decide +kernel
theorem d_M_common_13 : decode c_M_common 13 = .ok (.ifCond .eq 12, 3) := by decide +kernel
theorem d_M_common_16 : decode c_M_common 16 = .ok (.aload_n 0, 1) := by decide +kernel
theorem d_M_common_17 : decode c_M_common 17 = .ok (.iload_n 1, 1) := by decide +kernel
theorem d_M_common_18 : decode c_M_common 18 = .ok (.iload_n 2, 1) := by decide +kernel
theorem d_M_common_19 : decode c_M_common 19 = .ok (.invokevirtual 82, 3) := by decide +kernel
theorem d_M_common_22 : decode c_M_common 22 = .ok (.goto 4, 3) := by decide +kernel
theorem d_M_common_25 : decode c_M_common 25 = .ok (.iconst (-1), 1) := by decide +kernel
theorem d_M_common_26 : decode c_M_common 26 = .ok (.ireturn, 1) := by decide +kernel
theorem d_M_differ_0 : decode c_M_differ 0 = .ok (.aload_n 0, 1) := by decide +kernel
theorem d_M_differ_1 : decode c_M_differ 1 = .ok (.iload_n 1, 1) := by decide +kernel
theorem d_M_differ_2 : decode c_M_differ 2 = .ok (.invokevirtual 90, 3) := by decide +kernel
theorem d_M_differ_5 : decode c_M_differ 5 = .ok (.ifCond .eq 11, 3) := by decide +kernel
theorem d_M_differ_8 : decode c_M_differ 8 = .ok (.aload_n 0, 1) := by decide +kernel
theorem d_M_differ_9 : decode c_M_differ 9 = .ok (.iload_n 2, 1) := by decide +kernel
theorem d_M_differ_10 : decode c_M_differ 10 = .ok (.invokevirtual 90, 3) := by decide +kernel
theorem d_M_differ_13 : decode c_M_differ 13 = .ok (.ifCond .ne 5, 3) := by decide +kernel
theorem d_M_differ_16 : decode c_M_differ 16 = .ok (.iconst (-1), 1) := by decide +kernel
theorem d_M_differ_17 : decode c_M_differ 17 = .ok (.ireturn, 1) := by decide +kernel
theorem d_M_differ_18 : decode c_M_differ 18 = .ok (.iconst 0, 1) := by decide +kernel
theorem d_M_differ_19 : decode c_M_differ 19 = .ok (.istore_n 3, 1) := by decide +kernel
theorem d_M_differ_20 : decode c_M_differ 20 = .ok (.iconst 0, 1) := by decide +kernel
theorem d_M_differ_21 : decode c_M_differ 21 = .ok (.istore 4, 2) := by decide +kernel
theorem d_M_differ_23 : decode c_M_differ 23 = .ok (.iload 4, 2) := by decide +kernel
theorem d_M_differ_25 : decode c_M_differ 25 = .ok (.bipush 16, 2) := by decide +kernel
theorem d_M_differ_27 : decode c_M_differ 27 = .ok (.if_icmp .ge 39, 3) := by decide +kernel
theorem d_M_differ_30 : decode c_M_differ 30 = .ok (.aload_n 0, 1) := by decide +kernel
theorem d_M_differ_31 : decode c_M_differ 31 = .ok (.getfield 7, 3) := by decide +kernel
theorem d_M_differ_34 : decode c_M_differ 34 = .ok (.bipush 16, 2) := by decide +kernel
theorem d_M_differ_36 : decode c_M_differ 36 = .ok (.iload_n 1, 1) := by decide +kernel
theorem d_M_differ_37 : decode c_M_differ 37 = .ok (.imul, 1) := by decide +kernel
theorem d_M_differ_38 : decode c_M_differ 38 = .ok (.iload 4, 2) := by decide +kernel
theorem d_M_differ_40 : decode c_M_differ 40 = .ok (.iadd, 1) := by decide +kernel
theorem d_M_differ_41 : decode c_M_differ 41 = .ok (.iaload, 1) := by decide +kernel
theorem d_M_differ_42 : decode c_M_differ 42 = .ok (.aload_n 0, 1) := by decide +kernel
theorem d_M_differ_43 : decode c_M_differ 43 = .ok (.getfield 7, 3) := by decide +kernel
theorem d_M_differ_46 : decode c_M_differ 46 = .ok (.bipush 16, 2) := by decide +kernel
theorem d_M_differ_48 : decode c_M_differ 48 = .ok (.iload_n 2, 1) := by decide +kernel
theorem d_M_differ_49 : decode c_M_differ 49 = .ok (.imul, 1) := by decide +kernel
theorem d_M_differ_50 : decode c_M_differ 50 = .ok (.iload 4, 2) := by decide +kernel
theorem d_M_differ_52 : decode c_M_differ 52 = .ok (.iadd, 1) := by decide +kernel
theorem d_M_differ_53 : decode c_M_differ 53 = .ok (.iaload, 1) := by decide +kernel
theorem d_M_differ_54 : decode c_M_differ 54 = .ok (.if_icmp .eq 6, 3) := by decide +kernel
theorem d_M_differ_57 : decode c_M_differ 57 = .ok (.iinc 3 1, 3) := by decide +kernel
theorem d_M_differ_60 : decode c_M_differ 60 = .ok (.iinc 4 1, 3) := by decide +kernel
theorem d_M_differ_63 : decode c_M_differ 63 = .ok (.goto (-40), 3) := by decide +kernel
theorem d_M_differ_66 : decode c_M_differ 66 = .ok (.iload_n 3, 1) := by decide +kernel
theorem d_M_differ_67 : decode c_M_differ 67 = .ok (.ireturn, 1) := by decide +kernel
theorem d_M_clashing_0 : decode c_M_clashing 0 = .ok (.iload_n 1, 1) := by decide +kernel
theorem d_M_clashing_1 : decode c_M_clashing 1 = .ok (.iconst 0, 1) := by decide +kernel
theorem d_M_clashing_2 : decode c_M_clashing 2 = .ok (.bipush 15, 2) := by decide +kernel
theorem d_M_clashing_4 : decode c_M_clashing 4 = .ok (.invokestatic 42, 3) := by decide +kernel
theorem d_M_clashing_7 : decode c_M_clashing 7 = .ok (.ifCond .eq 16, 3) := by decide +kernel
theorem d_M_clashing_10 : decode c_M_clashing 10 = .ok (.aload_n 0, 1) := by decide +kernel
theorem d_M_clashing_11 : decode c_M_clashing 11 = .ok (.getfield 26, 3) := by decide +kernel
theorem d_M_clashing_14 : decode c_M_clashing 14 = .ok (.iload_n 1, 1) := by decide +kernel
theorem d_M_clashing_15 : decode c_M_clashing 15 = .ok (.baload, 1) := by decide +kernel
theorem d_M_clashing_16 : decode c_M_clashing 16 = .ok (.ifCond .eq 7, 3) := by decide +kernel
theorem d_M_clashing_19 : decode c_M_clashing 19 = .ok (.iconst 1, 1) := by decide +kernel
theorem d_M_clashing_20 : decode c_M_clashing 20 = .ok (.goto 4, 3) := by decide +kernel
theorem d_M_clashing_23 : decode c_M_clashing 23 = .ok (.iconst 0, 1) := by decide +kernel
theorem d_M_clashing_24 : decode c_M_clashing 24 = .ok (.ireturn, 1) := by decide +kernel
theorem d_M_alike_0 : decode c_M_alike 0 = .ok (.iconst 0, 1) := by decide +kernel
theorem d_M_alike_1 : decode c_M_alike 1 = .ok (.istore_n 3, 1) := by decide +kernel
theorem d_M_alike_2 : decode c_M_alike 2 = .ok (.iload_n 3, 1) := by decide +kernel
theorem d_M_alike_3 : decode c_M_alike 3 = .ok (.iconst 4, 1) := by decide +kernel
theorem d_M_alike_4 : decode c_M_alike 4 = .ok (.if_icmp .ge 30, 3) := by decide +kernel
theorem d_M_alike_7 : decode c_M_alike 7 = .ok (.aload_n 0, 1) := by decide +kernel
theorem d_M_alike_8 : decode c_M_alike 8 = .ok (.getfield 7, 3) := by decide +kernel
theorem d_M_alike_11 : decode c_M_alike 11 = .ok (.iload_n 1, 1) := by decide +kernel
theorem d_M_alike_12 : decode c_M_alike 12 = .ok (.iload_n 3, 1) := by decide +kernel
theorem d_M_alike_13 : decode c_M_alike 13 = .ok (.iadd, 1) := by decide +kernel
theorem d_M_alike_14 : decode c_M_alike 14 = .ok (.iaload, 1) := by decide +kernel
theorem d_M_alike_15 : decode c_M_alike 15 = .ok (.aload_n 0, 1) := by decide +kernel
theorem d_M_alike_16 : decode c_M_alike 16 = .ok (.getfield 7, 3) := by decide +kernel
theorem d_M_alike_19 : decode c_M_alike 19 = .ok (.iload_n 2, 1) := by decide +kernel
theorem d_M_alike_20 : decode c_M_alike 20 = .ok (.iload_n 3, 1) := by decide +kernel
theorem d_M_alike_21 : decode c_M_alike 21 = .ok (.iadd, 1) := by decide +kernel
theorem d_M_alike_22 : decode c_M_alike 22 = .ok (.iaload, 1) := by decide +kernel
theorem d_M_alike_23 : decode c_M_alike 23 = .ok (.if_icmp .eq 5, 3) := by decide +kernel
theorem d_M_alike_26 : decode c_M_alike 26 = .ok (.iconst 0, 1) := by decide +kernel
theorem d_M_alike_27 : decode c_M_alike 27 = .ok (.ireturn, 1) := by decide +kernel
theorem d_M_alike_28 : decode c_M_alike 28 = .ok (.iinc 3 1, 3) := by decide +kernel
theorem d_M_alike_31 : decode c_M_alike 31 = .ok (.goto (-29), 3) := by decide +kernel
theorem d_M_alike_34 : decode c_M_alike 34 = .ok (.iconst 1, 1) := by decide +kernel
theorem d_M_alike_35 : decode c_M_alike 35 = .ok (.ireturn, 1) := by decide +kernel
theorem d_M_folders_0 : decode c_M_folders 0 = .ok (.iconst 0, 1) := by decide +kernel
theorem d_M_folders_1 : decode c_M_folders 1 = .ok (.istore_n 1, 1) := by decide +kernel
theorem d_M_folders_2 : decode c_M_folders 2 = .ok (.bipush 16, 2) := by decide +kernel
theorem d_M_folders_4 : decode c_M_folders 4 = .ok (.istore_n 2, 1) := by decide +kernel
theorem d_M_folders_5 : decode c_M_folders 5 = .ok (.iload_n 2, 1) := by decide +kernel
theorem d_M_folders_6 : decode c_M_folders 6 = .ok (.sipush 496, 3) := by decide +kernel
theorem d_M_folders_9 : decode c_M_folders 9 = .ok (.if_icmp .ge 115, 3) := by decide +kernel
theorem d_M_folders_12 : decode c_M_folders 12 = .ok (.aload_n 0, 1) := by decide +kernel
theorem d_M_folders_13 : decode c_M_folders 13 = .ok (.getfield 13, 3) := by decide +kernel
theorem d_M_folders_16 : decode c_M_folders 16 = .ok (.iload_n 2, 1) := by decide +kernel
theorem d_M_folders_17 : decode c_M_folders 17 = .ok (.bipush 16, 2) := by decide +kernel
theorem d_M_folders_19 : decode c_M_folders 19 = .ok (.idiv, 1) := by decide +kernel
theorem d_M_folders_20 : decode c_M_folders 20 = .ok (.baload, 1) := by decide +kernel
theorem d_M_folders_21 : decode c_M_folders 21 = .ok (.ifCond .eq 43, 3) := by decide +kernel
theorem d_M_folders_24 : decode c_M_folders 24 = .ok (.aload_n 0, 1) := by decide +kernel
theorem d_M_folders_25 : decode c_M_folders 25 = .ok (.getfield 7, 3) := by decide +kernel
theorem d_M_folders_28 : decode c_M_folders 28 = .ok (.iload_n 2, 1) := by decide +kernel
theorem d_M_folders_29 : decode c_M_folders 29 = .ok (.iaload, 1) := by decide +kernel
theorem d_M_folders_30 : decode c_M_folders 30 = .ok (.aload_n 0, 1) := by decide +kernel
theorem d_M_folders_31 : decode c_M_folders 31 = .ok (.getfield 7, 3) := by decide +kernel
theorem d_M_folders_34 : decode c_M_folders 34 = .ok (.iload_n 2, 1) := by decide +kernel
theorem d_M_folders_35 : decode c_M_folders 35 = .ok (.iconst 1, 1) := by decide +kernel
theorem d_M_folders_36 : decode c_M_folders 36 = .ok (.iadd, 1) := by decide +kernel
theorem d_M_folders_37 : decode c_M_folders 37 = .ok (.iaload, 1) := by decide +kernel
theorem d_M_folders_38 : decode c_M_folders 38 = .ok (.ior, 1) := by decide +kernel
theorem d_M_folders_39 : decode c_M_folders 39 = .ok (.aload_n 0, 1) := by decide +kernel
theorem d_M_folders_40 : decode c_M_folders 40 = .ok (.getfield 7, 3) := by decide +kernel
theorem d_M_folders_43 : decode c_M_folders 43 = .ok (.iload_n 2, 1) := by decide +kernel
theorem d_M_folders_44 : decode c_M_folders 44 = .ok (.iconst 2, 1) := by decide +kernel
theorem d_M_folders_45 : decode c_M_folders 45 = .ok (.iadd, 1) := by decide +kernel
theorem d_M_folders_46 : decode c_M_folders 46 = .ok (.iaload, 1) := by decide +kernel
theorem d_M_folders_47 : decode c_M_folders 47 = .ok (.ior, 1) := by decide +kernel
theorem d_M_folders_48 : decode c_M_folders 48 = .ok (.aload_n 0, 1) := by decide +kernel
theorem d_M_folders_49 : decode c_M_folders 49 = .ok (.getfield 7, 3) := by decide +kernel
theorem d_M_folders_52 : decode c_M_folders 52 = .ok (.iload_n 2, 1) := by decide +kernel
theorem d_M_folders_53 : decode c_M_folders 53 = .ok (.iconst 3, 1) := by decide +kernel
theorem d_M_folders_54 : decode c_M_folders 54 = .ok (.iadd, 1) := by decide +kernel
theorem d_M_folders_55 : decode c_M_folders 55 = .ok (.iaload, 1) := by decide +kernel
theorem d_M_folders_56 : decode c_M_folders 56 = .ok (.ior, 1) := by decide +kernel
theorem d_M_folders_57 : decode c_M_folders 57 = .ok (.ifCond .eq 7, 3) := by decide +kernel
theorem d_M_folders_60 : decode c_M_folders 60 = .ok (.iconst 1, 1) := by decide +kernel
theorem d_M_folders_61 : decode c_M_folders 61 = .ok (.goto 4, 3) := by decide +kernel
theorem d_M_folders_64 : decode c_M_folders 64 = .ok (.iconst 0, 1) := by decide +kernel
theorem d_M_folders_65 : decode c_M_folders 65 = .ok (.istore_n 3, 1) := by decide +kernel
theorem d_M_folders_66 : decode c_M_folders 66 = .ok (.bipush 16, 2) := by decide +kernel
theorem d_M_folders_68 : decode c_M_folders 68 = .ok (.istore 4, 2) := by decide +kernel
theorem d_M_folders_70 : decode c_M_folders 70 = .ok (.iload 4, 2) := by decide +kernel
theorem d_M_folders_72 : decode c_M_folders 72 = .ok (.iload_n 2, 1) := by decide +kernel
theorem d_M_folders_73 : decode c_M_folders 73 = .ok (.if_icmp .ge 38, 3) := by decide +kernel
theorem d_M_folders_76 : decode c_M_folders 76 = .ok (.iload_n 3, 1) := by decide +kernel
theorem d_M_folders_77 : decode c_M_folders 77 = .ok (.ifCond .eq 28, 3) := by decide +kernel
theorem d_M_folders_80 : decode c_M_folders 80 = .ok (.aload_n 0, 1) := by decide +kernel
theorem d_M_folders_81 : decode c_M_folders 81 = .ok (.getfield 13, 3) := by decide +kernel
theorem d_M_folders_84 : decode c_M_folders 84 = .ok (.iload 4, 2) := by decide +kernel
theorem d_M_folders_86 : decode c_M_folders 86 = .ok (.bipush 16, 2) := by decide +kernel
theorem d_M_folders_88 : decode c_M_folders 88 = .ok (.idiv, 1) := by decide +kernel
theorem d_M_folders_89 : decode c_M_folders 89 = .ok (.baload, 1) := by decide +kernel
theorem d_M_folders_90 : decode c_M_folders 90 = .ok (.ifCond .eq 15, 3) := by decide +kernel
theorem d_M_folders_93 : decode c_M_folders 93 = .ok (.aload_n 0, 1) := by decide +kernel
theorem d_M_folders_94 : decode c_M_folders 94 = .ok (.iload_n 2, 1) := by decide +kernel
theorem d_M_folders_95 : decode c_M_folders 95 = .ok (.iload 4, 2) := by decide +kernel
theorem d_M_folders_97 : decode c_M_folders 97 = .ok (.invokevirtual 101, 3) := by decide +kernel
theorem d_M_folders_100 : decode c_M_folders 100 = .ok (.ifCond .eq 5, 3) := by decide +kernel
theorem d_M_folders_103 : decode c_M_folders 103 = .ok (.iconst 0, 1) := by decide +kernel
theorem d_M_folders_104 : decode c_M_folders 104 = .ok (.istore_n 3, 1) := by decide +kernel
theorem d_M_folders_105 : decode c_M_folders 105 = .ok (.iinc 4 4, 3) := by decide +kernel
theorem d_M_folders_108 : decode c_M_folders 108 = .ok (.goto (-38), 3) := by decide +kernel
theorem d_M_folders_111 : decode c_M_folders 111 = .ok (.iload_n 3, 1) := by decide +kernel
theorem d_M_folders_112 : decode c_M_folders 112 = .ok (.ifCond .eq 6, 3) := by decide +kernel
theorem d_M_folders_115 : decode c_M_folders 115 = .ok (.iinc 1 1, 3) := by decide +kernel
theorem d_M_folders_118 : decode c_M_folders 118 = .ok (.iinc 2 4, 3) := by decide +kernel
theorem d_M_folders_121 : decode c_M_folders 121 = .ok (.goto (-116), 3) := by decide +kernel
theorem d_M_folders_124 : decode c_M_folders 124 = .ok (.iload_n 1, 1) := by decide +kernel
theorem d_M_folders_125 : decode c_M_folders 125 = .ok (.ireturn, 1) := by decide +kernel
theorem d_M_roots_0 : decode c_M_roots 0 = .ok (.iconst 0, 1) := by decide +kernel
theorem d_M_roots_1 : decode c_M_roots 1 = .ok (.istore_n 1, 1) := by decide +kernel
theorem d_M_roots_2 : decode c_M_roots 2 = .ok (.iconst 1, 1) := by decide +kernel
theorem d_M_roots_3 : decode c_M_roots 3 = .ok (.istore_n 2, 1) := by decide +kernel
theorem d_M_roots_4 : decode c_M_roots 4 = .ok (.iload_n 2, 1) := by decide +kernel
theorem d_M_roots_5 : decode c_M_roots 5 = .ok (.bipush 31, 2) := by decide +kernel
theorem d_M_roots_7 : decode c_M_roots 7 = .ok (.if_icmp .ge 60, 3) := by decide +kernel
theorem d_M_roots_10 : decode c_M_roots 10 = .ok (.aload_n 0, 1) := by decide +kernel
theorem d_M_roots_11 : decode c_M_roots 11 = .ok (.getfield 13, 3) := by decide +kernel
theorem d_M_roots_14 : decode c_M_roots 14 = .ok (.iload_n 2, 1) := by decide +kernel
theorem d_M_roots_15 : decode c_M_roots 15 = .ok (.baload, 1) := by decide +kernel
theorem d_M_roots_16 : decode c_M_roots 16 = .ok (.istore_n 3, 1) := by decide +kernel
theorem d_M_roots_17 : decode c_M_roots 17 = .ok (.iconst 1, 1) := by decide +kernel
theorem d_M_roots_18 : decode c_M_roots 18 = .ok (.istore 4, 2) := by decide +kernel
theorem d_M_roots_20 : decode c_M_roots 20 = .ok (.iload 4, 2) := by decide +kernel
theorem d_M_roots_22 : decode c_M_roots 22 = .ok (.iload_n 2, 1) := by decide +kernel
theorem d_M_roots_23 : decode c_M_roots 23 = .ok (.if_icmp .ge 31, 3) := by decide +kernel
theorem d_M_roots_26 : decode c_M_roots 26 = .ok (.aload_n 0, 1) := by decide +kernel
theorem d_M_roots_27 : decode c_M_roots 27 = .ok (.getfield 13, 3) := by decide +kernel
theorem d_M_roots_30 : decode c_M_roots 30 = .ok (.iload 4, 2) := by decide +kernel
theorem d_M_roots_32 : decode c_M_roots 32 = .ok (.baload, 1) := by decide +kernel
theorem d_M_roots_33 : decode c_M_roots 33 = .ok (.ifCond .eq 15, 3) := by decide +kernel
theorem d_M_roots_36 : decode c_M_roots 36 = .ok (.aload_n 0, 1) := by decide +kernel
theorem d_M_roots_37 : decode c_M_roots 37 = .ok (.iload_n 2, 1) := by decide +kernel
theorem d_M_roots_38 : decode c_M_roots 38 = .ok (.iload 4, 2) := by decide +kernel
theorem d_M_roots_40 : decode c_M_roots 40 = .ok (.invokevirtual 50, 3) := by decide +kernel
theorem d_M_roots_43 : decode c_M_roots 43 = .ok (.ifCond .eq 5, 3) := by decide +kernel
theorem d_M_roots_46 : decode c_M_roots 46 = .ok (.iconst 0, 1) := by decide +kernel
theorem d_M_roots_47 : decode c_M_roots 47 = .ok (.istore_n 3, 1) := by decide +kernel
theorem d_M_roots_48 : decode c_M_roots 48 = .ok (.iinc 4 1, 3) := by decide +kernel
theorem d_M_roots_51 : decode c_M_roots 51 = .ok (.goto (-31), 3) := by decide +kernel
theorem d_M_roots_54 : decode c_M_roots 54 = .ok (.iload_n 3, 1) := by decide +kernel
theorem d_M_roots_55 : decode c_M_roots 55 = .ok (.ifCond .eq 6, 3) := by decide +kernel
theorem d_M_roots_58 : decode c_M_roots 58 = .ok (.iinc 1 1, 3) := by decide +kernel
theorem d_M_roots_61 : decode c_M_roots 61 = .ok (.iinc 2 1, 3) := by decide +kernel
theorem d_M_roots_64 : decode c_M_roots 64 = .ok (.goto (-60), 3) := by decide +kernel
theorem d_M_roots_67 : decode c_M_roots 67 = .ok (.iload_n 1, 1) := by decide +kernel
theorem d_M_roots_68 : decode c_M_roots 68 = .ok (.ireturn, 1) := by decide +kernel
theorem d_M_changed_0 : decode c_M_changed 0 = .ok (.iconst 0, 1) := by decide +kernel
theorem d_M_changed_1 : decode c_M_changed 1 = .ok (.istore_n 1, 1) := by decide +kernel
theorem d_M_changed_2 : decode c_M_changed 2 = .ok (.iconst 0, 1) := by decide +kernel
theorem d_M_changed_3 : decode c_M_changed 3 = .ok (.istore_n 2, 1) := by decide +kernel
theorem d_M_changed_4 : decode c_M_changed 4 = .ok (.iload_n 2, 1) := by decide +kernel
theorem d_M_changed_5 : decode c_M_changed 5 = .ok (.bipush 16, 2) := by decide +kernel
theorem d_M_changed_7 : decode c_M_changed 7 = .ok (.if_icmp .ge 35, 3) := by decide +kernel
theorem d_M_changed_10 : decode c_M_changed 10 = .ok (.aload_n 0, 1) := by decide +kernel
theorem d_M_changed_11 : decode c_M_changed 11 = .ok (.getfield 7, 3) := by decide +kernel
theorem d_M_changed_14 : decode c_M_changed 14 = .ok (.sipush 496, 3) := by decide +kernel
theorem d_M_changed_17 : decode c_M_changed 17 = .ok (.iload_n 2, 1) := by decide +kernel
theorem d_M_changed_18 : decode c_M_changed 18 = .ok (.iadd, 1) := by decide +kernel
theorem d_M_changed_19 : decode c_M_changed 19 = .ok (.iaload, 1) := by decide +kernel
theorem d_M_changed_20 : decode c_M_changed 20 = .ok (.aload_n 0, 1) := by decide +kernel
theorem d_M_changed_21 : decode c_M_changed 21 = .ok (.getfield 7, 3) := by decide +kernel
theorem d_M_changed_24 : decode c_M_changed 24 = .ok (.sipush 512, 3) := by decide +kernel
theorem d_M_changed_27 : decode c_M_changed 27 = .ok (.iload_n 2, 1) := by decide +kernel
theorem d_M_changed_28 : decode c_M_changed 28 = .ok (.iadd, 1) := by decide +kernel
theorem d_M_changed_29 : decode c_M_changed 29 = .ok (.iaload, 1) := by decide +kernel
theorem d_M_changed_30 : decode c_M_changed 30 = .ok (.if_icmp .eq 6, 3) := by decide +kernel
theorem d_M_changed_33 : decode c_M_changed 33 = .ok (.iinc 1 1, 3) := by decide +kernel
theorem d_M_changed_36 : decode c_M_changed 36 = .ok (.iinc 2 1, 3) := by decide +kernel
theorem d_M_changed_39 : decode c_M_changed 39 = .ok (.goto (-35), 3) := by decide +kernel
theorem d_M_changed_42 : decode c_M_changed 42 = .ok (.iload_n 1, 1) := by decide +kernel
theorem d_M_changed_43 : decode c_M_changed 43 = .ok (.ireturn, 1) := by decide +kernel
theorem d_M_count_0 : decode c_M_count 0 = .ok (.iconst 0, 1) := by decide +kernel
theorem d_M_count_1 : decode c_M_count 1 = .ok (.istore_n 2, 1) := by decide +kernel
theorem d_M_count_2 : decode c_M_count 2 = .ok (.iload_n 1, 1) := by decide +kernel
theorem d_M_count_3 : decode c_M_count 3 = .ok (.tableswitch 150 0 9 #[53, 82, 87, 92, 120, 125, 130, 135, 140, 145], 53) := by decide +kernel
theorem d_M_count_56 : decode c_M_count 56 = .ok (.iconst 1, 1) := by decide +kernel
theorem d_M_count_57 : decode c_M_count 57 = .ok (.istore_n 3, 1) := by decide +kernel
theorem d_M_count_58 : decode c_M_count 58 = .ok (.iload_n 3, 1) := by decide +kernel
theorem d_M_count_59 : decode c_M_count 59 = .ok (.sipush 10000, 3) := by decide +kernel
theorem d_M_count_62 : decode c_M_count 62 = .ok (.if_icmp .ge 21, 3) := by decide +kernel
theorem d_M_count_65 : decode c_M_count 65 = .ok (.aload_n 0, 1) := by decide +kernel
theorem d_M_count_66 : decode c_M_count 66 = .ok (.getfield 29, 3) := by decide +kernel
theorem d_M_count_69 : decode c_M_count 69 = .ok (.iload_n 3, 1) := by decide +kernel
theorem d_M_count_70 : decode c_M_count 70 = .ok (.baload, 1) := by decide +kernel
theorem d_M_count_71 : decode c_M_count 71 = .ok (.ifCond .eq 6, 3) := by decide +kernel
theorem d_M_count_74 : decode c_M_count 74 = .ok (.iinc 2 1, 3) := by decide +kernel
theorem d_M_count_77 : decode c_M_count 77 = .ok (.iinc 3 1, 3) := by decide +kernel
theorem d_M_count_80 : decode c_M_count 80 = .ok (.goto (-22), 3) := by decide +kernel
theorem d_M_count_83 : decode c_M_count 83 = .ok (.iload_n 2, 1) := by decide +kernel
theorem d_M_count_84 : decode c_M_count 84 = .ok (.ireturn, 1) := by decide +kernel
theorem d_M_count_85 : decode c_M_count 85 = .ok (.aload_n 0, 1) := by decide +kernel
theorem d_M_count_86 : decode c_M_count 86 = .ok (.invokevirtual 104, 3) := by decide +kernel
theorem d_M_count_89 : decode c_M_count 89 = .ok (.ireturn, 1) := by decide +kernel
theorem d_M_count_90 : decode c_M_count 90 = .ok (.aload_n 0, 1) := by decide +kernel
theorem d_M_count_91 : decode c_M_count 91 = .ok (.invokevirtual 107, 3) := by decide +kernel
theorem d_M_count_94 : decode c_M_count 94 = .ok (.ireturn, 1) := by decide +kernel
theorem d_M_count_95 : decode c_M_count 95 = .ok (.iconst 1, 1) := by decide +kernel
theorem d_M_count_96 : decode c_M_count 96 = .ok (.istore_n 3, 1) := by decide +kernel
theorem d_M_count_97 : decode c_M_count 97 = .ok (.iload_n 3, 1) := by decide +kernel
theorem d_M_count_98 : decode c_M_count 98 = .ok (.bipush 31, 2) := by decide +kernel
theorem d_M_count_100 : decode c_M_count 100 = .ok (.if_icmp .ge 21, 3) := by decide +kernel
theorem d_M_count_103 : decode c_M_count 103 = .ok (.aload_n 0, 1) := by decide +kernel
theorem d_M_count_104 : decode c_M_count 104 = .ok (.getfield 13, 3) := by decide +kernel
theorem d_M_count_107 : decode c_M_count 107 = .ok (.iload_n 3, 1) := by decide +kernel
theorem d_M_count_108 : decode c_M_count 108 = .ok (.baload, 1) := by decide +kernel
theorem d_M_count_109 : decode c_M_count 109 = .ok (.ifCond .eq 6, 3) := by decide +kernel
theorem d_M_count_112 : decode c_M_count 112 = .ok (.iinc 2 1, 3) := by decide +kernel
theorem d_M_count_115 : decode c_M_count 115 = .ok (.iinc 3 1, 3) := by decide +kernel
theorem d_M_count_118 : decode c_M_count 118 = .ok (.goto (-21), 3) := by decide +kernel
theorem d_M_count_121 : decode c_M_count 121 = .ok (.iload_n 2, 1) := by decide +kernel
theorem d_M_count_122 : decode c_M_count 122 = .ok (.ireturn, 1) := by decide +kernel
theorem d_M_count_123 : decode c_M_count 123 = .ok (.aload_n 0, 1) := by decide +kernel
theorem d_M_count_124 : decode c_M_count 124 = .ok (.getfield 58, 3) := by decide +kernel
theorem d_M_count_127 : decode c_M_count 127 = .ok (.ireturn, 1) := by decide +kernel
theorem d_M_count_128 : decode c_M_count 128 = .ok (.aload_n 0, 1) := by decide +kernel
theorem d_M_count_129 : decode c_M_count 129 = .ok (.getfield 38, 3) := by decide +kernel
theorem d_M_count_132 : decode c_M_count 132 = .ok (.ireturn, 1) := by decide +kernel
theorem d_M_count_133 : decode c_M_count 133 = .ok (.aload_n 0, 1) := by decide +kernel
theorem d_M_count_134 : decode c_M_count 134 = .ok (.invokevirtual 54, 3) := by decide +kernel
theorem d_M_count_137 : decode c_M_count 137 = .ok (.ireturn, 1) := by decide +kernel
theorem d_M_count_138 : decode c_M_count 138 = .ok (.aload_n 0, 1) := by decide +kernel
theorem d_M_count_139 : decode c_M_count 139 = .ok (.getfield 64, 3) := by decide +kernel
theorem d_M_count_142 : decode c_M_count 142 = .ok (.ireturn, 1) := by decide +kernel
theorem d_M_count_143 : decode c_M_count 143 = .ok (.aload_n 0, 1) := by decide +kernel
theorem d_M_count_144 : decode c_M_count 144 = .ok (.invokevirtual 61, 3) := by decide +kernel
theorem d_M_count_147 : decode c_M_count 147 = .ok (.ireturn, 1) := by decide +kernel
theorem d_M_count_148 : decode c_M_count 148 = .ok (.aload_n 0, 1) := by decide +kernel
theorem d_M_count_149 : decode c_M_count 149 = .ok (.invokevirtual 110, 3) := by decide +kernel
theorem d_M_count_152 : decode c_M_count 152 = .ok (.ireturn, 1) := by decide +kernel
theorem d_M_count_153 : decode c_M_count 153 = .ok (.iconst (-1), 1) := by decide +kernel
theorem d_M_count_154 : decode c_M_count 154 = .ok (.ireturn, 1) := by decide +kernel
theorem d_I_bitCount_0 : decode c_I_bitCount 0 = .ok (.iload_n 0, 1) := by decide +kernel
theorem d_I_bitCount_1 : decode c_I_bitCount 1 = .ok (.iload_n 0, 1) := by decide +kernel
theorem d_I_bitCount_2 : decode c_I_bitCount 2 = .ok (.iconst 1, 1) := by decide +kernel
theorem d_I_bitCount_3 : decode c_I_bitCount 3 = .ok (.iushr, 1) := by decide +kernel
theorem d_I_bitCount_4 : decode c_I_bitCount 4 = .ok (.ldc_w 265, 3) := by decide +kernel
theorem d_I_bitCount_7 : decode c_I_bitCount 7 = .ok (.iand, 1) := by decide +kernel
theorem d_I_bitCount_8 : decode c_I_bitCount 8 = .ok (.isub, 1) := by decide +kernel
theorem d_I_bitCount_9 : decode c_I_bitCount 9 = .ok (.istore_n 0, 1) := by decide +kernel
theorem d_I_bitCount_10 : decode c_I_bitCount 10 = .ok (.iload_n 0, 1) := by decide +kernel
theorem d_I_bitCount_11 : decode c_I_bitCount 11 = .ok (.ldc_w 266, 3) := by decide +kernel
theorem d_I_bitCount_14 : decode c_I_bitCount 14 = .ok (.iand, 1) := by decide +kernel
theorem d_I_bitCount_15 : decode c_I_bitCount 15 = .ok (.iload_n 0, 1) := by decide +kernel
theorem d_I_bitCount_16 : decode c_I_bitCount 16 = .ok (.iconst 2, 1) := by decide +kernel
theorem d_I_bitCount_17 : decode c_I_bitCount 17 = .ok (.iushr, 1) := by decide +kernel
theorem d_I_bitCount_18 : decode c_I_bitCount 18 = .ok (.ldc_w 266, 3) := by decide +kernel
theorem d_I_bitCount_21 : decode c_I_bitCount 21 = .ok (.iand, 1) := by decide +kernel
theorem d_I_bitCount_22 : decode c_I_bitCount 22 = .ok (.iadd, 1) := by decide +kernel
theorem d_I_bitCount_23 : decode c_I_bitCount 23 = .ok (.istore_n 0, 1) := by decide +kernel
theorem d_I_bitCount_24 : decode c_I_bitCount 24 = .ok (.iload_n 0, 1) := by decide +kernel
theorem d_I_bitCount_25 : decode c_I_bitCount 25 = .ok (.iload_n 0, 1) := by decide +kernel
theorem d_I_bitCount_26 : decode c_I_bitCount 26 = .ok (.iconst 4, 1) := by decide +kernel
theorem d_I_bitCount_27 : decode c_I_bitCount 27 = .ok (.iushr, 1) := by decide +kernel
theorem d_I_bitCount_28 : decode c_I_bitCount 28 = .ok (.iadd, 1) := by decide +kernel
theorem d_I_bitCount_29 : decode c_I_bitCount 29 = .ok (.ldc_w 267, 3) := by decide +kernel
theorem d_I_bitCount_32 : decode c_I_bitCount 32 = .ok (.iand, 1) := by decide +kernel
theorem d_I_bitCount_33 : decode c_I_bitCount 33 = .ok (.istore_n 0, 1) := by decide +kernel
theorem d_I_bitCount_34 : decode c_I_bitCount 34 = .ok (.iload_n 0, 1) := by decide +kernel
theorem d_I_bitCount_35 : decode c_I_bitCount 35 = .ok (.iload_n 0, 1) := by decide +kernel
theorem d_I_bitCount_36 : decode c_I_bitCount 36 = .ok (.bipush 8, 2) := by decide +kernel
theorem d_I_bitCount_38 : decode c_I_bitCount 38 = .ok (.iushr, 1) := by decide +kernel
theorem d_I_bitCount_39 : decode c_I_bitCount 39 = .ok (.iadd, 1) := by decide +kernel
theorem d_I_bitCount_40 : decode c_I_bitCount 40 = .ok (.istore_n 0, 1) := by decide +kernel
theorem d_I_bitCount_41 : decode c_I_bitCount 41 = .ok (.iload_n 0, 1) := by decide +kernel
theorem d_I_bitCount_42 : decode c_I_bitCount 42 = .ok (.iload_n 0, 1) := by decide +kernel
theorem d_I_bitCount_43 : decode c_I_bitCount 43 = .ok (.bipush 16, 2) := by decide +kernel
theorem d_I_bitCount_45 : decode c_I_bitCount 45 = .ok (.iushr, 1) := by decide +kernel
theorem d_I_bitCount_46 : decode c_I_bitCount 46 = .ok (.iadd, 1) := by decide +kernel
theorem d_I_bitCount_47 : decode c_I_bitCount 47 = .ok (.istore_n 0, 1) := by decide +kernel
theorem d_I_bitCount_48 : decode c_I_bitCount 48 = .ok (.iload_n 0, 1) := by decide +kernel
theorem d_I_bitCount_49 : decode c_I_bitCount 49 = .ok (.bipush 63, 2) := by decide +kernel
theorem d_I_bitCount_51 : decode c_I_bitCount 51 = .ok (.iand, 1) := by decide +kernel
theorem d_I_bitCount_52 : decode c_I_bitCount 52 = .ok (.ireturn, 1) := by decide +kernel
theorem d_J_bitCount_0 : decode c_J_bitCount 0 = .ok (.lload_n 0, 1) := by decide +kernel
theorem d_J_bitCount_1 : decode c_J_bitCount 1 = .ok (.lload_n 0, 1) := by decide +kernel
theorem d_J_bitCount_2 : decode c_J_bitCount 2 = .ok (.iconst 1, 1) := by decide +kernel
theorem d_J_bitCount_3 : decode c_J_bitCount 3 = .ok (.lushr, 1) := by decide +kernel
theorem d_J_bitCount_4 : decode c_J_bitCount 4 = .ok (.ldc2_w 314, 3) := by decide +kernel
theorem d_J_bitCount_7 : decode c_J_bitCount 7 = .ok (.land, 1) := by decide +kernel
theorem d_J_bitCount_8 : decode c_J_bitCount 8 = .ok (.lsub, 1) := by decide +kernel
theorem d_J_bitCount_9 : decode c_J_bitCount 9 = .ok (.lstore_n 0, 1) := by decide +kernel
theorem d_J_bitCount_10 : decode c_J_bitCount 10 = .ok (.lload_n 0, 1) := by decide +kernel
theorem d_J_bitCount_11 : decode c_J_bitCount 11 = .ok (.ldc2_w 316, 3) := by decide +kernel
theorem d_J_bitCount_14 : decode c_J_bitCount 14 = .ok (.land, 1) := by decide +kernel
theorem d_J_bitCount_15 : decode c_J_bitCount 15 = .ok (.lload_n 0, 1) := by decide +kernel
theorem d_J_bitCount_16 : decode c_J_bitCount 16 = .ok (.iconst 2, 1) := by decide +kernel
theorem d_J_bitCount_17 : decode c_J_bitCount 17 = .ok (.lushr, 1) := by decide +kernel
theorem d_J_bitCount_18 : decode c_J_bitCount 18 = .ok (.ldc2_w 316, 3) := by decide +kernel
theorem d_J_bitCount_21 : decode c_J_bitCount 21 = .ok (.land, 1) := by decide +kernel
theorem d_J_bitCount_22 : decode c_J_bitCount 22 = .ok (.ladd, 1) := by decide +kernel
theorem d_J_bitCount_23 : decode c_J_bitCount 23 = .ok (.lstore_n 0, 1) := by decide +kernel
theorem d_J_bitCount_24 : decode c_J_bitCount 24 = .ok (.lload_n 0, 1) := by decide +kernel
theorem d_J_bitCount_25 : decode c_J_bitCount 25 = .ok (.lload_n 0, 1) := by decide +kernel
theorem d_J_bitCount_26 : decode c_J_bitCount 26 = .ok (.iconst 4, 1) := by decide +kernel
theorem d_J_bitCount_27 : decode c_J_bitCount 27 = .ok (.lushr, 1) := by decide +kernel
theorem d_J_bitCount_28 : decode c_J_bitCount 28 = .ok (.ladd, 1) := by decide +kernel
theorem d_J_bitCount_29 : decode c_J_bitCount 29 = .ok (.ldc2_w 318, 3) := by decide +kernel
theorem d_J_bitCount_32 : decode c_J_bitCount 32 = .ok (.land, 1) := by decide +kernel
theorem d_J_bitCount_33 : decode c_J_bitCount 33 = .ok (.lstore_n 0, 1) := by decide +kernel
theorem d_J_bitCount_34 : decode c_J_bitCount 34 = .ok (.lload_n 0, 1) := by decide +kernel
theorem d_J_bitCount_35 : decode c_J_bitCount 35 = .ok (.lload_n 0, 1) := by decide +kernel
theorem d_J_bitCount_36 : decode c_J_bitCount 36 = .ok (.bipush 8, 2) := by decide +kernel
theorem d_J_bitCount_38 : decode c_J_bitCount 38 = .ok (.lushr, 1) := by decide +kernel
theorem d_J_bitCount_39 : decode c_J_bitCount 39 = .ok (.ladd, 1) := by decide +kernel
theorem d_J_bitCount_40 : decode c_J_bitCount 40 = .ok (.lstore_n 0, 1) := by decide +kernel
theorem d_J_bitCount_41 : decode c_J_bitCount 41 = .ok (.lload_n 0, 1) := by decide +kernel
theorem d_J_bitCount_42 : decode c_J_bitCount 42 = .ok (.lload_n 0, 1) := by decide +kernel
theorem d_J_bitCount_43 : decode c_J_bitCount 43 = .ok (.bipush 16, 2) := by decide +kernel
theorem d_J_bitCount_45 : decode c_J_bitCount 45 = .ok (.lushr, 1) := by decide +kernel
theorem d_J_bitCount_46 : decode c_J_bitCount 46 = .ok (.ladd, 1) := by decide +kernel
theorem d_J_bitCount_47 : decode c_J_bitCount 47 = .ok (.lstore_n 0, 1) := by decide +kernel
theorem d_J_bitCount_48 : decode c_J_bitCount 48 = .ok (.lload_n 0, 1) := by decide +kernel
theorem d_J_bitCount_49 : decode c_J_bitCount 49 = .ok (.lload_n 0, 1) := by decide +kernel
theorem d_J_bitCount_50 : decode c_J_bitCount 50 = .ok (.bipush 32, 2) := by decide +kernel
theorem d_J_bitCount_52 : decode c_J_bitCount 52 = .ok (.lushr, 1) := by decide +kernel
theorem d_J_bitCount_53 : decode c_J_bitCount 53 = .ok (.ladd, 1) := by decide +kernel
theorem d_J_bitCount_54 : decode c_J_bitCount 54 = .ok (.lstore_n 0, 1) := by decide +kernel
theorem d_J_bitCount_55 : decode c_J_bitCount 55 = .ok (.lload_n 0, 1) := by decide +kernel
theorem d_J_bitCount_56 : decode c_J_bitCount 56 = .ok (.l2i, 1) := by decide +kernel
theorem d_J_bitCount_57 : decode c_J_bitCount 57 = .ok (.bipush 127, 2) := by decide +kernel
theorem d_J_bitCount_59 : decode c_J_bitCount 59 = .ok (.iand, 1) := by decide +kernel
theorem d_J_bitCount_60 : decode c_J_bitCount 60 = .ok (.ireturn, 1) := by decide +kernel
