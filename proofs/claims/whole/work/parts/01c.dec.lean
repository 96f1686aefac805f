/-! The model, instruction by instruction. -/
theorem dX4_init_0 : decode cX4_init 0 = .ok (.aload_n 0, 1) := by decide +kernel
theorem dX4_init_1 : decode cX4_init 1 = .ok (.invokespecial 1, 3) := by decide +kernel
theorem dX4_init_4 : decode cX4_init 4 = .ok (.aload_n 0, 1) := by decide +kernel
theorem dX4_init_5 : decode cX4_init 5 = .ok (.sipush 256, 3) := by decide +kernel
theorem dX4_init_8 : decode cX4_init 8 = .ok (.newarray .int, 2) := by decide +kernel
theorem dX4_init_10 : decode cX4_init 10 = .ok (.putfield 7, 3) := by decide +kernel
theorem dX4_init_13 : decode cX4_init 13 = .ok (.aload_n 0, 1) := by decide +kernel
theorem dX4_init_14 : decode cX4_init 14 = .ok (.sipush 256, 3) := by decide +kernel
theorem dX4_init_17 : decode cX4_init 17 = .ok (.newarray .int, 2) := by decide +kernel
theorem dX4_init_19 : decode cX4_init 19 = .ok (.putfield 13, 3) := by decide +kernel
theorem dX4_init_22 : decode cX4_init 22 = .ok (.aload_n 0, 1) := by decide +kernel
theorem dX4_init_23 : decode cX4_init 23 = .ok (.sipush 256, 3) := by decide +kernel
theorem dX4_init_26 : decode cX4_init 26 = .ok (.newarray .int, 2) := by decide +kernel
theorem dX4_init_28 : decode cX4_init 28 = .ok (.putfield 16, 3) := by decide +kernel
theorem dX4_init_31 : decode cX4_init 31 = .ok (.aload_n 0, 1) := by decide +kernel
theorem dX4_init_32 : decode cX4_init 32 = .ok (.sipush 2048, 3) := by decide +kernel
theorem dX4_init_35 : decode cX4_init 35 = .ok (.newarray .int, 2) := by decide +kernel
theorem dX4_init_37 : decode cX4_init 37 = .ok (.putfield 19, 3) := by decide +kernel
theorem dX4_init_40 : decode cX4_init 40 = .ok (.aload_n 0, 1) := by decide +kernel
theorem dX4_init_41 : decode cX4_init 41 = .ok (.sipush 256, 3) := by decide +kernel
theorem dX4_init_44 : decode cX4_init 44 = .ok (.newarray .long, 2) := by decide +kernel
theorem dX4_init_46 : decode cX4_init 46 = .ok (.putfield 22, 3) := by decide +kernel
theorem dX4_init_49 : decode cX4_init 49 = .ok (.aload_n 0, 1) := by decide +kernel
theorem dX4_init_50 : decode cX4_init 50 = .ok (.sipush 256, 3) := by decide +kernel
theorem dX4_init_53 : decode cX4_init 53 = .ok (.newarray .int, 2) := by decide +kernel
theorem dX4_init_55 : decode cX4_init 55 = .ok (.putfield 26, 3) := by decide +kernel
theorem dX4_init_58 : decode cX4_init 58 = .ok (.aload_n 0, 1) := by decide +kernel
theorem dX4_init_59 : decode cX4_init 59 = .ok (.bipush 120, 2) := by decide +kernel
theorem dX4_init_61 : decode cX4_init 61 = .ok (.newarray .int, 2) := by decide +kernel
theorem dX4_init_63 : decode cX4_init 63 = .ok (.putfield 29, 3) := by decide +kernel
theorem dX4_init_66 : decode cX4_init 66 = .ok (.aload_n 0, 1) := by decide +kernel
theorem dX4_init_67 : decode cX4_init 67 = .ok (.bipush 120, 2) := by decide +kernel
theorem dX4_init_69 : decode cX4_init 69 = .ok (.newarray .int, 2) := by decide +kernel
theorem dX4_init_71 : decode cX4_init 71 = .ok (.putfield 32, 3) := by decide +kernel
theorem dX4_init_74 : decode cX4_init 74 = .ok (.aload_n 0, 1) := by decide +kernel
theorem dX4_init_75 : decode cX4_init 75 = .ok (.bipush 120, 2) := by decide +kernel
theorem dX4_init_77 : decode cX4_init 77 = .ok (.newarray .int, 2) := by decide +kernel
theorem dX4_init_79 : decode cX4_init 79 = .ok (.putfield 35, 3) := by decide +kernel
theorem dX4_init_82 : decode cX4_init 82 = .ok (.aload_n 0, 1) := by decide +kernel
theorem dX4_init_83 : decode cX4_init 83 = .ok (.bipush 10, 2) := by decide +kernel
theorem dX4_init_85 : decode cX4_init 85 = .ok (.newarray .int, 2) := by decide +kernel
theorem dX4_init_87 : decode cX4_init 87 = .ok (.putfield 38, 3) := by decide +kernel
theorem dX4_init_90 : decode cX4_init 90 = .ok (.aload_n 0, 1) := by decide +kernel
theorem dX4_init_91 : decode cX4_init 91 = .ok (.bipush 21, 2) := by decide +kernel
theorem dX4_init_93 : decode cX4_init 93 = .ok (.newarray .int, 2) := by decide +kernel
theorem dX4_init_95 : decode cX4_init 95 = .ok (.putfield 41, 3) := by decide +kernel
theorem dX4_init_98 : decode cX4_init 98 = .ok (.aload_n 0, 1) := by decide +kernel
theorem dX4_init_99 : decode cX4_init 99 = .ok (.bipush 21, 2) := by decide +kernel
theorem dX4_init_101 : decode cX4_init 101 = .ok (.newarray .int, 2) := by decide +kernel
theorem dX4_init_103 : decode cX4_init 103 = .ok (.putfield 44, 3) := by decide +kernel
theorem dX4_init_106 : decode cX4_init 106 = .ok (.aload_n 0, 1) := by decide +kernel
theorem dX4_init_107 : decode cX4_init 107 = .ok (.bipush 21, 2) := by decide +kernel
theorem dX4_init_109 : decode cX4_init 109 = .ok (.newarray .int, 2) := by decide +kernel
theorem dX4_init_111 : decode cX4_init 111 = .ok (.putfield 47, 3) := by decide +kernel
theorem dX4_init_114 : decode cX4_init 114 = .ok (.aload_n 0, 1) := by decide +kernel
theorem dX4_init_115 : decode cX4_init 115 = .ok (.bipush 21, 2) := by decide +kernel
theorem dX4_init_117 : decode cX4_init 117 = .ok (.newarray .int, 2) := by decide +kernel
theorem dX4_init_119 : decode cX4_init 119 = .ok (.putfield 50, 3) := by decide +kernel
theorem dX4_init_122 : decode cX4_init 122 = .ok (.aload_n 0, 1) := by decide +kernel
theorem dX4_init_123 : decode cX4_init 123 = .ok (.bipush 21, 2) := by decide +kernel
theorem dX4_init_125 : decode cX4_init 125 = .ok (.newarray .int, 2) := by decide +kernel
theorem dX4_init_127 : decode cX4_init 127 = .ok (.putfield 53, 3) := by decide +kernel
theorem dX4_init_130 : decode cX4_init 130 = .ok (.aload_n 0, 1) := by decide +kernel
theorem dX4_init_131 : decode cX4_init 131 = .ok (.bipush 21, 2) := by decide +kernel
theorem dX4_init_133 : decode cX4_init 133 = .ok (.newarray .int, 2) := by decide +kernel
theorem dX4_init_135 : decode cX4_init 135 = .ok (.putfield 56, 3) := by decide +kernel
theorem dX4_init_138 : decode cX4_init 138 = .ok (.aload_n 0, 1) := by decide +kernel
theorem dX4_init_139 : decode cX4_init 139 = .ok (.bipush 21, 2) := by decide +kernel
theorem dX4_init_141 : decode cX4_init 141 = .ok (.newarray .int, 2) := by decide +kernel
theorem dX4_init_143 : decode cX4_init 143 = .ok (.putfield 59, 3) := by decide +kernel
theorem dX4_init_146 : decode cX4_init 146 = .ok (.aload_n 0, 1) := by decide +kernel
theorem dX4_init_147 : decode cX4_init 147 = .ok (.bipush 21, 2) := by decide +kernel
theorem dX4_init_149 : decode cX4_init 149 = .ok (.newarray .long, 2) := by decide +kernel
theorem dX4_init_151 : decode cX4_init 151 = .ok (.putfield 62, 3) := by decide +kernel
theorem dX4_init_154 : decode cX4_init 154 = .ok (.iconst 0, 1) := by decide +kernel
theorem dX4_init_155 : decode cX4_init 155 = .ok (.istore_n 1, 1) := by decide +kernel
theorem dX4_init_156 : decode cX4_init 156 = .ok (.iload_n 1, 1) := by decide +kernel
theorem dX4_init_157 : decode cX4_init 157 = .ok (.sipush 256, 3) := by decide +kernel
theorem dX4_init_160 : decode cX4_init 160 = .ok (.if_icmp .ge 32, 3) := by decide +kernel
theorem dX4_init_163 : decode cX4_init 163 = .ok (.aload_n 0, 1) := by decide +kernel
theorem dX4_init_164 : decode cX4_init 164 = .ok (.getfield 13, 3) := by decide +kernel
theorem dX4_init_167 : decode cX4_init 167 = .ok (.iload_n 1, 1) := by decide +kernel
theorem dX4_init_168 : decode cX4_init 168 = .ok (.iconst (-1), 1) := by decide +kernel
theorem dX4_init_169 : decode cX4_init 169 = .ok (.iastore, 1) := by decide +kernel
theorem dX4_init_170 : decode cX4_init 170 = .ok (.aload_n 0, 1) := by decide +kernel
theorem dX4_init_171 : decode cX4_init 171 = .ok (.getfield 16, 3) := by decide +kernel
theorem dX4_init_174 : decode cX4_init 174 = .ok (.iload_n 1, 1) := by decide +kernel
theorem dX4_init_175 : decode cX4_init 175 = .ok (.iconst (-1), 1) := by decide +kernel
theorem dX4_init_176 : decode cX4_init 176 = .ok (.iastore, 1) := by decide +kernel
theorem dX4_init_177 : decode cX4_init 177 = .ok (.aload_n 0, 1) := by decide +kernel
theorem dX4_init_178 : decode cX4_init 178 = .ok (.getfield 22, 3) := by decide +kernel
theorem dX4_init_181 : decode cX4_init 181 = .ok (.iload_n 1, 1) := by decide +kernel
theorem dX4_init_182 : decode cX4_init 182 = .ok (.ldc2_w 65, 3) := by decide +kernel
theorem dX4_init_185 : decode cX4_init 185 = .ok (.lastore, 1) := by decide +kernel
theorem dX4_init_186 : decode cX4_init 186 = .ok (.iinc 1 1, 3) := by decide +kernel
theorem dX4_init_189 : decode cX4_init 189 = .ok (.goto (-33), 3) := by decide +kernel
theorem dX4_init_192 : decode cX4_init 192 = .ok (.iconst 0, 1) := by decide +kernel
theorem dX4_init_193 : decode cX4_init 193 = .ok (.istore_n 1, 1) := by decide +kernel
theorem dX4_init_194 : decode cX4_init 194 = .ok (.iload_n 1, 1) := by decide +kernel
theorem dX4_init_195 : decode cX4_init 195 = .ok (.sipush 2048, 3) := by decide +kernel
theorem dX4_init_198 : decode cX4_init 198 = .ok (.if_icmp .ge 16, 3) := by decide +kernel
theorem dX4_init_201 : decode cX4_init 201 = .ok (.aload_n 0, 1) := by decide +kernel
theorem dX4_init_202 : decode cX4_init 202 = .ok (.getfield 19, 3) := by decide +kernel
theorem dX4_init_205 : decode cX4_init 205 = .ok (.iload_n 1, 1) := by decide +kernel
theorem dX4_init_206 : decode cX4_init 206 = .ok (.iconst (-1), 1) := by decide +kernel
theorem dX4_init_207 : decode cX4_init 207 = .ok (.iastore, 1) := by decide +kernel
theorem dX4_init_208 : decode cX4_init 208 = .ok (.iinc 1 1, 3) := by decide +kernel
theorem dX4_init_211 : decode cX4_init 211 = .ok (.goto (-17), 3) := by decide +kernel
theorem dX4_init_214 : decode cX4_init 214 = .ok (.return_, 1) := by decide +kernel
theorem dX4_isId_0 : decode cX4_isId 0 = .ok (.iload_n 0, 1) := by decide +kernel
theorem dX4_isId_1 : decode cX4_isId 1 = .ok (.ifCond .lt 14, 3) := by decide +kernel
theorem dX4_isId_4 : decode cX4_isId 4 = .ok (.iload_n 0, 1) := by decide +kernel
theorem dX4_isId_5 : decode cX4_isId 5 = .ok (.sipush 255, 3) := by decide +kernel
theorem dX4_isId_8 : decode cX4_isId 8 = .ok (.if_icmp .gt 7, 3) := by decide +kernel
theorem dX4_isId_11 : decode cX4_isId 11 = .ok (.iconst 1, 1) := by decide +kernel
theorem dX4_isId_12 : decode cX4_isId 12 = .ok (.goto 4, 3) := by decide +kernel
theorem dX4_isId_15 : decode cX4_isId 15 = .ok (.iconst 0, 1) := by decide +kernel
theorem dX4_isId_16 : decode cX4_isId 16 = .ok (.ireturn, 1) := by decide +kernel
theorem dX4_isMember_0 : decode cX4_isMember 0 = .ok (.iload_n 1, 1) := by decide +kernel
theorem dX4_isMember_1 : decode cX4_isMember 1 = .ok (.invokestatic 67, 3) := by decide +kernel
theorem dX4_isMember_4 : decode cX4_isMember 4 = .ok (.ifCond .eq 17, 3) := by decide +kernel
theorem dX4_isMember_7 : decode cX4_isMember 7 = .ok (.aload_n 0, 1) := by decide +kernel
theorem dX4_isMember_8 : decode cX4_isMember 8 = .ok (.getfield 7, 3) := by decide +kernel
theorem dX4_isMember_11 : decode cX4_isMember 11 = .ok (.iload_n 1, 1) := by decide +kernel
theorem dX4_isMember_12 : decode cX4_isMember 12 = .ok (.iaload, 1) := by decide +kernel
theorem dX4_isMember_13 : decode cX4_isMember 13 = .ok (.iconst 2, 1) := by decide +kernel
theorem dX4_isMember_14 : decode cX4_isMember 14 = .ok (.if_icmp .ne 7, 3) := by decide +kernel
theorem dX4_isMember_17 : decode cX4_isMember 17 = .ok (.iconst 1, 1) := by decide +kernel
theorem dX4_isMember_18 : decode cX4_isMember 18 = .ok (.goto 4, 3) := by decide +kernel
theorem dX4_isMember_21 : decode cX4_isMember 21 = .ok (.iconst 0, 1) := by decide +kernel
theorem dX4_isMember_22 : decode cX4_isMember 22 = .ok (.ireturn, 1) := by decide +kernel
theorem dX4_past_0 : decode cX4_past 0 = .ok (.iload_n 1, 1) := by decide +kernel
theorem dX4_past_1 : decode cX4_past 1 = .ok (.istore_n 3, 1) := by decide +kernel
theorem dX4_past_2 : decode cX4_past 2 = .ok (.iconst 0, 1) := by decide +kernel
theorem dX4_past_3 : decode cX4_past 3 = .ok (.istore 4, 2) := by decide +kernel
theorem dX4_past_5 : decode cX4_past 5 = .ok (.iload 4, 2) := by decide +kernel
theorem dX4_past_7 : decode cX4_past 7 = .ok (.sipush 256, 3) := by decide +kernel
theorem dX4_past_10 : decode cX4_past 10 = .ok (.if_icmp .ge 31, 3) := by decide +kernel
theorem dX4_past_13 : decode cX4_past 13 = .ok (.iload_n 3, 1) := by decide +kernel
theorem dX4_past_14 : decode cX4_past 14 = .ok (.iconst 1, 1) := by decide +kernel
theorem dX4_past_15 : decode cX4_past 15 = .ok (.iadd, 1) := by decide +kernel
theorem dX4_past_16 : decode cX4_past 16 = .ok (.sipush 256, 3) := by decide +kernel
theorem dX4_past_19 : decode cX4_past 19 = .ok (.irem, 1) := by decide +kernel
theorem dX4_past_20 : decode cX4_past 20 = .ok (.istore_n 3, 1) := by decide +kernel
theorem dX4_past_21 : decode cX4_past 21 = .ok (.iload_n 3, 1) := by decide +kernel
theorem dX4_past_22 : decode cX4_past 22 = .ok (.iload_n 0, 1) := by decide +kernel
theorem dX4_past_23 : decode cX4_past 23 = .ok (.if_icmp .ne 5, 3) := by decide +kernel
theorem dX4_past_26 : decode cX4_past 26 = .ok (.iconst 1, 1) := by decide +kernel
theorem dX4_past_27 : decode cX4_past 27 = .ok (.ireturn, 1) := by decide +kernel
theorem dX4_past_28 : decode cX4_past 28 = .ok (.iload_n 3, 1) := by decide +kernel
theorem dX4_past_29 : decode cX4_past 29 = .ok (.iload_n 2, 1) := by decide +kernel
theorem dX4_past_30 : decode cX4_past 30 = .ok (.if_icmp .ne 5, 3) := by decide +kernel
theorem dX4_past_33 : decode cX4_past 33 = .ok (.iconst 0, 1) := by decide +kernel
theorem dX4_past_34 : decode cX4_past 34 = .ok (.ireturn, 1) := by decide +kernel
theorem dX4_past_35 : decode cX4_past 35 = .ok (.iinc 4 1, 3) := by decide +kernel
theorem dX4_past_38 : decode cX4_past 38 = .ok (.goto (-33), 3) := by decide +kernel
theorem dX4_past_41 : decode cX4_past 41 = .ok (.iconst 0, 1) := by decide +kernel
theorem dX4_past_42 : decode cX4_past 42 = .ok (.ireturn, 1) := by decide +kernel
theorem dX4_between_0 : decode cX4_between 0 = .ok (.iload_n 0, 1) := by decide +kernel
theorem dX4_between_1 : decode cX4_between 1 = .ok (.iload_n 2, 1) := by decide +kernel
theorem dX4_between_2 : decode cX4_between 2 = .ok (.if_icmp .eq 16, 3) := by decide +kernel
theorem dX4_between_5 : decode cX4_between 5 = .ok (.iload_n 0, 1) := by decide +kernel
theorem dX4_between_6 : decode cX4_between 6 = .ok (.iload_n 1, 1) := by decide +kernel
theorem dX4_between_7 : decode cX4_between 7 = .ok (.iload_n 2, 1) := by decide +kernel
theorem dX4_between_8 : decode cX4_between 8 = .ok (.invokestatic 71, 3) := by decide +kernel
theorem dX4_between_11 : decode cX4_between 11 = .ok (.ifCond .eq 7, 3) := by decide +kernel
theorem dX4_between_14 : decode cX4_between 14 = .ok (.iconst 1, 1) := by decide +kernel
theorem dX4_between_15 : decode cX4_between 15 = .ok (.goto 4, 3) := by decide +kernel
theorem dX4_between_18 : decode cX4_between 18 = .ok (.iconst 0, 1) := by decide +kernel
theorem dX4_between_19 : decode cX4_between 19 = .ok (.ireturn, 1) := by decide +kernel
theorem dX4_first_0 : decode cX4_first 0 = .ok (.iload_n 1, 1) := by decide +kernel
theorem dX4_first_1 : decode cX4_first 1 = .ok (.sipush 255, 3) := by decide +kernel
theorem dX4_first_4 : decode cX4_first 4 = .ok (.iand, 1) := by decide +kernel
theorem dX4_first_5 : decode cX4_first 5 = .ok (.istore_n 3, 1) := by decide +kernel
theorem dX4_first_6 : decode cX4_first 6 = .ok (.iconst 0, 1) := by decide +kernel
theorem dX4_first_7 : decode cX4_first 7 = .ok (.istore 4, 2) := by decide +kernel
theorem dX4_first_9 : decode cX4_first 9 = .ok (.iload 4, 2) := by decide +kernel
theorem dX4_first_11 : decode cX4_first 11 = .ok (.sipush 256, 3) := by decide +kernel
theorem dX4_first_14 : decode cX4_first 14 = .ok (.if_icmp .ge 29, 3) := by decide +kernel
theorem dX4_first_17 : decode cX4_first 17 = .ok (.aload_n 0, 1) := by decide +kernel
theorem dX4_first_18 : decode cX4_first 18 = .ok (.getfield 7, 3) := by decide +kernel
theorem dX4_first_21 : decode cX4_first 21 = .ok (.iload_n 3, 1) := by decide +kernel
theorem dX4_first_22 : decode cX4_first 22 = .ok (.iaload, 1) := by decide +kernel
theorem dX4_first_23 : decode cX4_first 23 = .ok (.iconst 2, 1) := by decide +kernel
theorem dX4_first_24 : decode cX4_first 24 = .ok (.if_icmp .ne 5, 3) := by decide +kernel
theorem dX4_first_27 : decode cX4_first 27 = .ok (.iload_n 3, 1) := by decide +kernel
theorem dX4_first_28 : decode cX4_first 28 = .ok (.ireturn, 1) := by decide +kernel
theorem dX4_first_29 : decode cX4_first 29 = .ok (.iload_n 3, 1) := by decide +kernel
theorem dX4_first_30 : decode cX4_first 30 = .ok (.iload_n 2, 1) := by decide +kernel
theorem dX4_first_31 : decode cX4_first 31 = .ok (.iadd, 1) := by decide +kernel
theorem dX4_first_32 : decode cX4_first 32 = .ok (.sipush 255, 3) := by decide +kernel
theorem dX4_first_35 : decode cX4_first 35 = .ok (.iand, 1) := by decide +kernel
theorem dX4_first_36 : decode cX4_first 36 = .ok (.istore_n 3, 1) := by decide +kernel
theorem dX4_first_37 : decode cX4_first 37 = .ok (.iinc 4 1, 3) := by decide +kernel
theorem dX4_first_40 : decode cX4_first 40 = .ok (.goto (-31), 3) := by decide +kernel
theorem dX4_first_43 : decode cX4_first 43 = .ok (.iconst (-1), 1) := by decide +kernel
theorem dX4_first_44 : decode cX4_first 44 = .ok (.ireturn, 1) := by decide +kernel
theorem dX4_post_0 : decode cX4_post 0 = .ok (.aload_n 0, 1) := by decide +kernel
theorem dX4_post_1 : decode cX4_post 1 = .ok (.getfield 41, 3) := by decide +kernel
theorem dX4_post_4 : decode cX4_post 4 = .ok (.aload_n 0, 1) := by decide +kernel
theorem dX4_post_5 : decode cX4_post 5 = .ok (.getfield 75, 3) := by decide +kernel
theorem dX4_post_8 : decode cX4_post 8 = .ok (.iload_n 1, 1) := by decide +kernel
theorem dX4_post_9 : decode cX4_post 9 = .ok (.iastore, 1) := by decide +kernel
theorem dX4_post_10 : decode cX4_post 10 = .ok (.aload_n 0, 1) := by decide +kernel
theorem dX4_post_11 : decode cX4_post 11 = .ok (.getfield 44, 3) := by decide +kernel
theorem dX4_post_14 : decode cX4_post 14 = .ok (.aload_n 0, 1) := by decide +kernel
theorem dX4_post_15 : decode cX4_post 15 = .ok (.getfield 75, 3) := by decide +kernel
theorem dX4_post_18 : decode cX4_post 18 = .ok (.iload_n 2, 1) := by decide +kernel
theorem dX4_post_19 : decode cX4_post 19 = .ok (.iastore, 1) := by decide +kernel
theorem dX4_post_20 : decode cX4_post 20 = .ok (.aload_n 0, 1) := by decide +kernel
theorem dX4_post_21 : decode cX4_post 21 = .ok (.getfield 47, 3) := by decide +kernel
theorem dX4_post_24 : decode cX4_post 24 = .ok (.aload_n 0, 1) := by decide +kernel
theorem dX4_post_25 : decode cX4_post 25 = .ok (.getfield 75, 3) := by decide +kernel
theorem dX4_post_28 : decode cX4_post 28 = .ok (.iload_n 3, 1) := by decide +kernel
theorem dX4_post_29 : decode cX4_post 29 = .ok (.iastore, 1) := by decide +kernel
theorem dX4_post_30 : decode cX4_post 30 = .ok (.aload_n 0, 1) := by decide +kernel
theorem dX4_post_31 : decode cX4_post 31 = .ok (.getfield 56, 3) := by decide +kernel
theorem dX4_post_34 : decode cX4_post 34 = .ok (.aload_n 0, 1) := by decide +kernel
theorem dX4_post_35 : decode cX4_post 35 = .ok (.getfield 75, 3) := by decide +kernel
theorem dX4_post_38 : decode cX4_post 38 = .ok (.iload 4, 2) := by decide +kernel
theorem dX4_post_40 : decode cX4_post 40 = .ok (.iastore, 1) := by decide +kernel
theorem dX4_post_41 : decode cX4_post 41 = .ok (.aload_n 0, 1) := by decide +kernel
theorem dX4_post_42 : decode cX4_post 42 = .ok (.getfield 50, 3) := by decide +kernel
theorem dX4_post_45 : decode cX4_post 45 = .ok (.aload_n 0, 1) := by decide +kernel
theorem dX4_post_46 : decode cX4_post 46 = .ok (.getfield 75, 3) := by decide +kernel
theorem dX4_post_49 : decode cX4_post 49 = .ok (.iconst 0, 1) := by decide +kernel
theorem dX4_post_50 : decode cX4_post 50 = .ok (.iastore, 1) := by decide +kernel
theorem dX4_post_51 : decode cX4_post 51 = .ok (.aload_n 0, 1) := by decide +kernel
theorem dX4_post_52 : decode cX4_post 52 = .ok (.getfield 53, 3) := by decide +kernel
theorem dX4_post_55 : decode cX4_post 55 = .ok (.aload_n 0, 1) := by decide +kernel
theorem dX4_post_56 : decode cX4_post 56 = .ok (.getfield 75, 3) := by decide +kernel
theorem dX4_post_59 : decode cX4_post 59 = .ok (.iconst 0, 1) := by decide +kernel
theorem dX4_post_60 : decode cX4_post 60 = .ok (.iastore, 1) := by decide +kernel
theorem dX4_post_61 : decode cX4_post 61 = .ok (.aload_n 0, 1) := by decide +kernel
theorem dX4_post_62 : decode cX4_post 62 = .ok (.getfield 59, 3) := by decide +kernel
theorem dX4_post_65 : decode cX4_post 65 = .ok (.aload_n 0, 1) := by decide +kernel
theorem dX4_post_66 : decode cX4_post 66 = .ok (.getfield 75, 3) := by decide +kernel
theorem dX4_post_69 : decode cX4_post 69 = .ok (.iconst 0, 1) := by decide +kernel
theorem dX4_post_70 : decode cX4_post 70 = .ok (.iastore, 1) := by decide +kernel
theorem dX4_post_71 : decode cX4_post 71 = .ok (.aload_n 0, 1) := by decide +kernel
theorem dX4_post_72 : decode cX4_post 72 = .ok (.getfield 62, 3) := by decide +kernel
theorem dX4_post_75 : decode cX4_post 75 = .ok (.aload_n 0, 1) := by decide +kernel
theorem dX4_post_76 : decode cX4_post 76 = .ok (.getfield 75, 3) := by decide +kernel
theorem dX4_post_79 : decode cX4_post 79 = .ok (.lconst 0, 1) := by decide +kernel
theorem dX4_post_80 : decode cX4_post 80 = .ok (.lastore, 1) := by decide +kernel
theorem dX4_post_81 : decode cX4_post 81 = .ok (.aload_n 0, 1) := by decide +kernel
theorem dX4_post_82 : decode cX4_post 82 = .ok (.dup, 1) := by decide +kernel
theorem dX4_post_83 : decode cX4_post 83 = .ok (.getfield 75, 3) := by decide +kernel
theorem dX4_post_86 : decode cX4_post 86 = .ok (.iconst 1, 1) := by decide +kernel
theorem dX4_post_87 : decode cX4_post 87 = .ok (.iadd, 1) := by decide +kernel
theorem dX4_post_88 : decode cX4_post 88 = .ok (.putfield 75, 3) := by decide +kernel
theorem dX4_post_91 : decode cX4_post 91 = .ok (.return_, 1) := by decide +kernel
theorem dX4_copy_0 : decode cX4_copy 0 = .ok (.aload_n 0, 1) := by decide +kernel
theorem dX4_copy_1 : decode cX4_copy 1 = .ok (.getfield 41, 3) := by decide +kernel
theorem dX4_copy_4 : decode cX4_copy 4 = .ok (.iload_n 2, 1) := by decide +kernel
theorem dX4_copy_5 : decode cX4_copy 5 = .ok (.aload_n 0, 1) := by decide +kernel
theorem dX4_copy_6 : decode cX4_copy 6 = .ok (.getfield 41, 3) := by decide +kernel
theorem dX4_copy_9 : decode cX4_copy 9 = .ok (.iload_n 1, 1) := by decide +kernel
theorem dX4_copy_10 : decode cX4_copy 10 = .ok (.iaload, 1) := by decide +kernel
theorem dX4_copy_11 : decode cX4_copy 11 = .ok (.iastore, 1) := by decide +kernel
theorem dX4_copy_12 : decode cX4_copy 12 = .ok (.aload_n 0, 1) := by decide +kernel
theorem dX4_copy_13 : decode cX4_copy 13 = .ok (.getfield 44, 3) := by decide +kernel
theorem dX4_copy_16 : decode cX4_copy 16 = .ok (.iload_n 2, 1) := by decide +kernel
theorem dX4_copy_17 : decode cX4_copy 17 = .ok (.aload_n 0, 1) := by decide +kernel
theorem dX4_copy_18 : decode cX4_copy 18 = .ok (.getfield 44, 3) := by decide +kernel
theorem dX4_copy_21 : decode cX4_copy 21 = .ok (.iload_n 1, 1) := by decide +kernel
theorem dX4_copy_22 : decode cX4_copy 22 = .ok (.iaload, 1) := by decide +kernel
theorem dX4_copy_23 : decode cX4_copy 23 = .ok (.iastore, 1) := by decide +kernel
theorem dX4_copy_24 : decode cX4_copy 24 = .ok (.aload_n 0, 1) := by decide +kernel
theorem dX4_copy_25 : decode cX4_copy 25 = .ok (.getfield 47, 3) := by decide +kernel
theorem dX4_copy_28 : decode cX4_copy 28 = .ok (.iload_n 2, 1) := by decide +kernel
theorem dX4_copy_29 : decode cX4_copy 29 = .ok (.aload_n 0, 1) := by decide +kernel
theorem dX4_copy_30 : decode cX4_copy 30 = .ok (.getfield 47, 3) := by decide +kernel
theorem dX4_copy_33 : decode cX4_copy 33 = .ok (.iload_n 1, 1) := by decide +kernel
theorem dX4_copy_34 : decode cX4_copy 34 = .ok (.iaload, 1) := by decide +kernel
theorem dX4_copy_35 : decode cX4_copy 35 = .ok (.iastore, 1) := by decide +kernel
theorem dX4_copy_36 : decode cX4_copy 36 = .ok (.aload_n 0, 1) := by decide +kernel
theorem dX4_copy_37 : decode cX4_copy 37 = .ok (.getfield 50, 3) := by decide +kernel
theorem dX4_copy_40 : decode cX4_copy 40 = .ok (.iload_n 2, 1) := by decide +kernel
theorem dX4_copy_41 : decode cX4_copy 41 = .ok (.aload_n 0, 1) := by decide +kernel
theorem dX4_copy_42 : decode cX4_copy 42 = .ok (.getfield 50, 3) := by decide +kernel
theorem dX4_copy_45 : decode cX4_copy 45 = .ok (.iload_n 1, 1) := by decide +kernel
theorem dX4_copy_46 : decode cX4_copy 46 = .ok (.iaload, 1) := by decide +kernel
theorem dX4_copy_47 : decode cX4_copy 47 = .ok (.iastore, 1) := by decide +kernel
theorem dX4_copy_48 : decode cX4_copy 48 = .ok (.aload_n 0, 1) := by decide +kernel
theorem dX4_copy_49 : decode cX4_copy 49 = .ok (.getfield 53, 3) := by decide +kernel
theorem dX4_copy_52 : decode cX4_copy 52 = .ok (.iload_n 2, 1) := by decide +kernel
theorem dX4_copy_53 : decode cX4_copy 53 = .ok (.aload_n 0, 1) := by decide +kernel
theorem dX4_copy_54 : decode cX4_copy 54 = .ok (.getfield 53, 3) := by decide +kernel
theorem dX4_copy_57 : decode cX4_copy 57 = .ok (.iload_n 1, 1) := by decide +kernel
theorem dX4_copy_58 : decode cX4_copy 58 = .ok (.iaload, 1) := by decide +kernel
theorem dX4_copy_59 : decode cX4_copy 59 = .ok (.iastore, 1) := by decide +kernel
theorem dX4_copy_60 : decode cX4_copy 60 = .ok (.aload_n 0, 1) := by decide +kernel
theorem dX4_copy_61 : decode cX4_copy 61 = .ok (.getfield 56, 3) := by decide +kernel
theorem dX4_copy_64 : decode cX4_copy 64 = .ok (.iload_n 2, 1) := by decide +kernel
theorem dX4_copy_65 : decode cX4_copy 65 = .ok (.aload_n 0, 1) := by decide +kernel
theorem dX4_copy_66 : decode cX4_copy 66 = .ok (.getfield 56, 3) := by decide +kernel
theorem dX4_copy_69 : decode cX4_copy 69 = .ok (.iload_n 1, 1) := by decide +kernel
theorem dX4_copy_70 : decode cX4_copy 70 = .ok (.iaload, 1) := by decide +kernel
theorem dX4_copy_71 : decode cX4_copy 71 = .ok (.iastore, 1) := by decide +kernel
theorem dX4_copy_72 : decode cX4_copy 72 = .ok (.aload_n 0, 1) := by decide +kernel
theorem dX4_copy_73 : decode cX4_copy 73 = .ok (.getfield 59, 3) := by decide +kernel
theorem dX4_copy_76 : decode cX4_copy 76 = .ok (.iload_n 2, 1) := by decide +kernel
theorem dX4_copy_77 : decode cX4_copy 77 = .ok (.aload_n 0, 1) := by decide +kernel
theorem dX4_copy_78 : decode cX4_copy 78 = .ok (.getfield 59, 3) := by decide +kernel
theorem dX4_copy_81 : decode cX4_copy 81 = .ok (.iload_n 1, 1) := by decide +kernel
theorem dX4_copy_82 : decode cX4_copy 82 = .ok (.iaload, 1) := by decide +kernel
theorem dX4_copy_83 : decode cX4_copy 83 = .ok (.iastore, 1) := by decide +kernel
theorem dX4_copy_84 : decode cX4_copy 84 = .ok (.aload_n 0, 1) := by decide +kernel
theorem dX4_copy_85 : decode cX4_copy 85 = .ok (.getfield 62, 3) := by decide +kernel
theorem dX4_copy_88 : decode cX4_copy 88 = .ok (.iload_n 2, 1) := by decide +kernel
theorem dX4_copy_89 : decode cX4_copy 89 = .ok (.aload_n 0, 1) := by decide +kernel
theorem dX4_copy_90 : decode cX4_copy 90 = .ok (.getfield 62, 3) := by decide +kernel
theorem dX4_copy_93 : decode cX4_copy 93 = .ok (.iload_n 1, 1) := by decide +kernel
theorem dX4_copy_94 : decode cX4_copy 94 = .ok (.laload, 1) := by decide +kernel
theorem dX4_copy_95 : decode cX4_copy 95 = .ok (.lastore, 1) := by decide +kernel
theorem dX4_copy_96 : decode cX4_copy 96 = .ok (.return_, 1) := by decide +kernel
theorem dX4_ask_0 : decode cX4_ask 0 = .ok (.aload_n 0, 1) := by decide +kernel
theorem dX4_ask_1 : decode cX4_ask 1 = .ok (.iconst 1, 1) := by decide +kernel
theorem dX4_ask_2 : decode cX4_ask 2 = .ok (.iload_n 1, 1) := by decide +kernel
theorem dX4_ask_3 : decode cX4_ask 3 = .ok (.iload_n 2, 1) := by decide +kernel
theorem dX4_ask_4 : decode cX4_ask 4 = .ok (.sipush 255, 3) := by decide +kernel
theorem dX4_ask_7 : decode cX4_ask 7 = .ok (.iand, 1) := by decide +kernel
theorem dX4_ask_8 : decode cX4_ask 8 = .ok (.iload_n 1, 1) := by decide +kernel
theorem dX4_ask_9 : decode cX4_ask 9 = .ok (.invokevirtual 79, 3) := by decide +kernel
theorem dX4_ask_12 : decode cX4_ask 12 = .ok (.aload_n 0, 1) := by decide +kernel
theorem dX4_ask_13 : decode cX4_ask 13 = .ok (.getfield 50, 3) := by decide +kernel
theorem dX4_ask_16 : decode cX4_ask 16 = .ok (.aload_n 0, 1) := by decide +kernel
theorem dX4_ask_17 : decode cX4_ask 17 = .ok (.getfield 75, 3) := by decide +kernel
theorem dX4_ask_20 : decode cX4_ask 20 = .ok (.iconst 1, 1) := by decide +kernel
theorem dX4_ask_21 : decode cX4_ask 21 = .ok (.isub, 1) := by decide +kernel
theorem dX4_ask_22 : decode cX4_ask 22 = .ok (.iload_n 3, 1) := by decide +kernel
theorem dX4_ask_23 : decode cX4_ask 23 = .ok (.iastore, 1) := by decide +kernel
theorem dX4_ask_24 : decode cX4_ask 24 = .ok (.aload_n 0, 1) := by decide +kernel
theorem dX4_ask_25 : decode cX4_ask 25 = .ok (.getfield 53, 3) := by decide +kernel
theorem dX4_ask_28 : decode cX4_ask 28 = .ok (.aload_n 0, 1) := by decide +kernel
theorem dX4_ask_29 : decode cX4_ask 29 = .ok (.getfield 75, 3) := by decide +kernel
theorem dX4_ask_32 : decode cX4_ask 32 = .ok (.iconst 1, 1) := by decide +kernel
theorem dX4_ask_33 : decode cX4_ask 33 = .ok (.isub, 1) := by decide +kernel
theorem dX4_ask_34 : decode cX4_ask 34 = .ok (.iload 4, 2) := by decide +kernel
theorem dX4_ask_36 : decode cX4_ask 36 = .ok (.iastore, 1) := by decide +kernel
theorem dX4_ask_37 : decode cX4_ask 37 = .ok (.aload_n 0, 1) := by decide +kernel
theorem dX4_ask_38 : decode cX4_ask 38 = .ok (.getfield 62, 3) := by decide +kernel
theorem dX4_ask_41 : decode cX4_ask 41 = .ok (.aload_n 0, 1) := by decide +kernel
theorem dX4_ask_42 : decode cX4_ask 42 = .ok (.getfield 75, 3) := by decide +kernel
theorem dX4_ask_45 : decode cX4_ask 45 = .ok (.iconst 1, 1) := by decide +kernel
theorem dX4_ask_46 : decode cX4_ask 46 = .ok (.isub, 1) := by decide +kernel
theorem dX4_ask_47 : decode cX4_ask 47 = .ok (.lload 5, 2) := by decide +kernel
theorem dX4_ask_49 : decode cX4_ask 49 = .ok (.lastore, 1) := by decide +kernel
theorem dX4_ask_50 : decode cX4_ask 50 = .ok (.return_, 1) := by decide +kernel
theorem dX4_create_0 : decode cX4_create 0 = .ok (.iload_n 1, 1) := by decide +kernel
theorem dX4_create_1 : decode cX4_create 1 = .ok (.invokestatic 67, 3) := by decide +kernel
theorem dX4_create_4 : decode cX4_create 4 = .ok (.ifCond .eq 10, 3) := by decide +kernel
theorem dX4_create_7 : decode cX4_create 7 = .ok (.aload_n 0, 1) := by decide +kernel
theorem dX4_create_8 : decode cX4_create 8 = .ok (.getfield 83, 3) := by decide +kernel
theorem dX4_create_11 : decode cX4_create 11 = .ok (.ifCond .le 5, 3) := by decide +kernel
theorem dX4_create_14 : decode cX4_create 14 = .ok (.iconst 0, 1) := by decide +kernel
theorem dX4_create_15 : decode cX4_create 15 = .ok (.ireturn, 1) := by decide +kernel
theorem dX4_create_16 : decode cX4_create 16 = .ok (.aload_n 0, 1) := by decide +kernel
theorem dX4_create_17 : decode cX4_create 17 = .ok (.iconst 1, 1) := by decide +kernel
theorem dX4_create_18 : decode cX4_create 18 = .ok (.putfield 83, 3) := by decide +kernel
theorem dX4_create_21 : decode cX4_create 21 = .ok (.aload_n 0, 1) := by decide +kernel
theorem dX4_create_22 : decode cX4_create 22 = .ok (.getfield 7, 3) := by decide +kernel
theorem dX4_create_25 : decode cX4_create 25 = .ok (.iload_n 1, 1) := by decide +kernel
theorem dX4_create_26 : decode cX4_create 26 = .ok (.iconst 2, 1) := by decide +kernel
theorem dX4_create_27 : decode cX4_create 27 = .ok (.iastore, 1) := by decide +kernel
theorem dX4_create_28 : decode cX4_create 28 = .ok (.aload_n 0, 1) := by decide +kernel
theorem dX4_create_29 : decode cX4_create 29 = .ok (.getfield 13, 3) := by decide +kernel
theorem dX4_create_32 : decode cX4_create 32 = .ok (.iload_n 1, 1) := by decide +kernel
theorem dX4_create_33 : decode cX4_create 33 = .ok (.iload_n 1, 1) := by decide +kernel
theorem dX4_create_34 : decode cX4_create 34 = .ok (.iastore, 1) := by decide +kernel
theorem dX4_create_35 : decode cX4_create 35 = .ok (.iconst 1, 1) := by decide +kernel
theorem dX4_create_36 : decode cX4_create 36 = .ok (.ireturn, 1) := by decide +kernel
theorem dX4_join_0 : decode cX4_join 0 = .ok (.iload_n 1, 1) := by decide +kernel
theorem dX4_join_1 : decode cX4_join 1 = .ok (.invokestatic 67, 3) := by decide +kernel
theorem dX4_join_4 : decode cX4_join 4 = .ok (.ifCond .eq 38, 3) := by decide +kernel
theorem dX4_join_7 : decode cX4_join 7 = .ok (.aload_n 0, 1) := by decide +kernel
theorem dX4_join_8 : decode cX4_join 8 = .ok (.getfield 7, 3) := by decide +kernel
theorem dX4_join_11 : decode cX4_join 11 = .ok (.iload_n 1, 1) := by decide +kernel
theorem dX4_join_12 : decode cX4_join 12 = .ok (.iaload, 1) := by decide +kernel
theorem dX4_join_13 : decode cX4_join 13 = .ok (.ifCond .ne 29, 3) := by decide +kernel
theorem dX4_join_16 : decode cX4_join 16 = .ok (.aload_n 0, 1) := by decide +kernel
theorem dX4_join_17 : decode cX4_join 17 = .ok (.iload_n 2, 1) := by decide +kernel
theorem dX4_join_18 : decode cX4_join 18 = .ok (.invokevirtual 86, 3) := by decide +kernel
theorem dX4_join_21 : decode cX4_join 21 = .ok (.ifCond .eq 21, 3) := by decide +kernel
theorem dX4_join_24 : decode cX4_join 24 = .ok (.aload_n 0, 1) := by decide +kernel
theorem dX4_join_25 : decode cX4_join 25 = .ok (.getfield 83, 3) := by decide +kernel
theorem dX4_join_28 : decode cX4_join 28 = .ok (.bipush 12, 2) := by decide +kernel
theorem dX4_join_30 : decode cX4_join 30 = .ok (.if_icmp .ge 12, 3) := by decide +kernel
theorem dX4_join_33 : decode cX4_join 33 = .ok (.aload_n 0, 1) := by decide +kernel
theorem dX4_join_34 : decode cX4_join 34 = .ok (.getfield 75, 3) := by decide +kernel
theorem dX4_join_37 : decode cX4_join 37 = .ok (.bipush 20, 2) := by decide +kernel
theorem dX4_join_39 : decode cX4_join 39 = .ok (.if_icmp .lt 5, 3) := by decide +kernel
theorem dX4_join_42 : decode cX4_join 42 = .ok (.iconst 0, 1) := by decide +kernel
theorem dX4_join_43 : decode cX4_join 43 = .ok (.ireturn, 1) := by decide +kernel
theorem dX4_join_44 : decode cX4_join 44 = .ok (.aload_n 0, 1) := by decide +kernel
theorem dX4_join_45 : decode cX4_join 45 = .ok (.dup, 1) := by decide +kernel
theorem dX4_join_46 : decode cX4_join 46 = .ok (.getfield 83, 3) := by decide +kernel
theorem dX4_join_49 : decode cX4_join 49 = .ok (.iconst 1, 1) := by decide +kernel
theorem dX4_join_50 : decode cX4_join 50 = .ok (.iadd, 1) := by decide +kernel
theorem dX4_join_51 : decode cX4_join 51 = .ok (.putfield 83, 3) := by decide +kernel
theorem dX4_join_54 : decode cX4_join 54 = .ok (.aload_n 0, 1) := by decide +kernel
theorem dX4_join_55 : decode cX4_join 55 = .ok (.getfield 7, 3) := by decide +kernel
theorem dX4_join_58 : decode cX4_join 58 = .ok (.iload_n 1, 1) := by decide +kernel
theorem dX4_join_59 : decode cX4_join 59 = .ok (.iconst 1, 1) := by decide +kernel
theorem dX4_join_60 : decode cX4_join 60 = .ok (.iastore, 1) := by decide +kernel
theorem dX4_join_61 : decode cX4_join 61 = .ok (.aload_n 0, 1) := by decide +kernel
theorem dX4_join_62 : decode cX4_join 62 = .ok (.iload_n 2, 1) := by decide +kernel
theorem dX4_join_63 : decode cX4_join 63 = .ok (.iload_n 1, 1) := by decide +kernel
theorem dX4_join_64 : decode cX4_join 64 = .ok (.iconst 0, 1) := by decide +kernel
theorem dX4_join_65 : decode cX4_join 65 = .ok (.iconst 0, 1) := by decide +kernel
theorem dX4_join_66 : decode cX4_join 66 = .ok (.lconst 0, 1) := by decide +kernel
theorem dX4_join_67 : decode cX4_join 67 = .ok (.invokevirtual 89, 3) := by decide +kernel
theorem dX4_join_70 : decode cX4_join 70 = .ok (.aload_n 0, 1) := by decide +kernel
theorem dX4_join_71 : decode cX4_join 71 = .ok (.getfield 56, 3) := by decide +kernel
theorem dX4_join_74 : decode cX4_join 74 = .ok (.aload_n 0, 1) := by decide +kernel
theorem dX4_join_75 : decode cX4_join 75 = .ok (.getfield 75, 3) := by decide +kernel
theorem dX4_join_78 : decode cX4_join 78 = .ok (.iconst 1, 1) := by decide +kernel
theorem dX4_join_79 : decode cX4_join 79 = .ok (.isub, 1) := by decide +kernel
theorem dX4_join_80 : decode cX4_join 80 = .ok (.iload_n 1, 1) := by decide +kernel
theorem dX4_join_81 : decode cX4_join 81 = .ok (.iastore, 1) := by decide +kernel
theorem dX4_join_82 : decode cX4_join 82 = .ok (.iconst 1, 1) := by decide +kernel
theorem dX4_join_83 : decode cX4_join 83 = .ok (.ireturn, 1) := by decide +kernel
theorem dX4_stabilise_0 : decode cX4_stabilise 0 = .ok (.aload_n 0, 1) := by decide +kernel
theorem dX4_stabilise_1 : decode cX4_stabilise 1 = .ok (.iload_n 1, 1) := by decide +kernel
theorem dX4_stabilise_2 : decode cX4_stabilise 2 = .ok (.invokevirtual 86, 3) := by decide +kernel
theorem dX4_stabilise_5 : decode cX4_stabilise 5 = .ok (.ifCond .eq 12, 3) := by decide +kernel
theorem dX4_stabilise_8 : decode cX4_stabilise 8 = .ok (.aload_n 0, 1) := by decide +kernel
theorem dX4_stabilise_9 : decode cX4_stabilise 9 = .ok (.getfield 75, 3) := by decide +kernel
theorem dX4_stabilise_12 : decode cX4_stabilise 12 = .ok (.bipush 20, 2) := by decide +kernel
theorem dX4_stabilise_14 : decode cX4_stabilise 14 = .ok (.if_icmp .lt 5, 3) := by decide +kernel
theorem dX4_stabilise_17 : decode cX4_stabilise 17 = .ok (.iconst 0, 1) := by decide +kernel
theorem dX4_stabilise_18 : decode cX4_stabilise 18 = .ok (.ireturn, 1) := by decide +kernel
theorem dX4_stabilise_19 : decode cX4_stabilise 19 = .ok (.aload_n 0, 1) := by decide +kernel
theorem dX4_stabilise_20 : decode cX4_stabilise 20 = .ok (.bipush 6, 2) := by decide +kernel
theorem dX4_stabilise_22 : decode cX4_stabilise 22 = .ok (.aload_n 0, 1) := by decide +kernel
theorem dX4_stabilise_23 : decode cX4_stabilise 23 = .ok (.getfield 13, 3) := by decide +kernel
theorem dX4_stabilise_26 : decode cX4_stabilise 26 = .ok (.iload_n 1, 1) := by decide +kernel
theorem dX4_stabilise_27 : decode cX4_stabilise 27 = .ok (.iaload, 1) := by decide +kernel
theorem dX4_stabilise_28 : decode cX4_stabilise 28 = .ok (.iconst 0, 1) := by decide +kernel
theorem dX4_stabilise_29 : decode cX4_stabilise 29 = .ok (.iload_n 1, 1) := by decide +kernel
theorem dX4_stabilise_30 : decode cX4_stabilise 30 = .ok (.invokevirtual 79, 3) := by decide +kernel
theorem dX4_stabilise_33 : decode cX4_stabilise 33 = .ok (.iconst 1, 1) := by decide +kernel
theorem dX4_stabilise_34 : decode cX4_stabilise 34 = .ok (.ireturn, 1) := by decide +kernel
theorem dX4_fix_0 : decode cX4_fix 0 = .ok (.aload_n 0, 1) := by decide +kernel
theorem dX4_fix_1 : decode cX4_fix 1 = .ok (.iload_n 1, 1) := by decide +kernel
theorem dX4_fix_2 : decode cX4_fix 2 = .ok (.invokevirtual 86, 3) := by decide +kernel
theorem dX4_fix_5 : decode cX4_fix 5 = .ok (.ifCond .eq 22, 3) := by decide +kernel
theorem dX4_fix_8 : decode cX4_fix 8 = .ok (.iload_n 2, 1) := by decide +kernel
theorem dX4_fix_9 : decode cX4_fix 9 = .ok (.ifCond .lt 18, 3) := by decide +kernel
theorem dX4_fix_12 : decode cX4_fix 12 = .ok (.iload_n 2, 1) := by decide +kernel
theorem dX4_fix_13 : decode cX4_fix 13 = .ok (.bipush 7, 2) := by decide +kernel
theorem dX4_fix_15 : decode cX4_fix 15 = .ok (.if_icmp .gt 12, 3) := by decide +kernel
theorem dX4_fix_18 : decode cX4_fix 18 = .ok (.aload_n 0, 1) := by decide +kernel
theorem dX4_fix_19 : decode cX4_fix 19 = .ok (.getfield 75, 3) := by decide +kernel
theorem dX4_fix_22 : decode cX4_fix 22 = .ok (.bipush 20, 2) := by decide +kernel
theorem dX4_fix_24 : decode cX4_fix 24 = .ok (.if_icmp .lt 5, 3) := by decide +kernel
theorem dX4_fix_27 : decode cX4_fix 27 = .ok (.iconst 0, 1) := by decide +kernel
theorem dX4_fix_28 : decode cX4_fix 28 = .ok (.ireturn, 1) := by decide +kernel
theorem dX4_fix_29 : decode cX4_fix 29 = .ok (.aload_n 0, 1) := by decide +kernel
theorem dX4_fix_30 : decode cX4_fix 30 = .ok (.iload_n 1, 1) := by decide +kernel
theorem dX4_fix_31 : decode cX4_fix 31 = .ok (.iload_n 1, 1) := by decide +kernel
theorem dX4_fix_32 : decode cX4_fix 32 = .ok (.iconst 1, 1) := by decide +kernel
theorem dX4_fix_33 : decode cX4_fix 33 = .ok (.iload_n 2, 1) := by decide +kernel
theorem dX4_fix_34 : decode cX4_fix 34 = .ok (.ishl, 1) := by decide +kernel
theorem dX4_fix_35 : decode cX4_fix 35 = .ok (.iadd, 1) := by decide +kernel
theorem dX4_fix_36 : decode cX4_fix 36 = .ok (.iconst 1, 1) := by decide +kernel
theorem dX4_fix_37 : decode cX4_fix 37 = .ok (.iload_n 2, 1) := by decide +kernel
theorem dX4_fix_38 : decode cX4_fix 38 = .ok (.lconst 0, 1) := by decide +kernel
theorem dX4_fix_39 : decode cX4_fix 39 = .ok (.invokevirtual 89, 3) := by decide +kernel
theorem dX4_fix_42 : decode cX4_fix 42 = .ok (.iconst 1, 1) := by decide +kernel
theorem dX4_fix_43 : decode cX4_fix 43 = .ok (.ireturn, 1) := by decide +kernel
theorem dX4_put_0 : decode cX4_put 0 = .ok (.aload_n 0, 1) := by decide +kernel
theorem dX4_put_1 : decode cX4_put 1 = .ok (.iload_n 1, 1) := by decide +kernel
theorem dX4_put_2 : decode cX4_put 2 = .ok (.invokevirtual 86, 3) := by decide +kernel
theorem dX4_put_5 : decode cX4_put 5 = .ok (.ifCond .eq 19, 3) := by decide +kernel
theorem dX4_put_8 : decode cX4_put 8 = .ok (.iload_n 2, 1) := by decide +kernel
theorem dX4_put_9 : decode cX4_put 9 = .ok (.invokestatic 67, 3) := by decide +kernel
theorem dX4_put_12 : decode cX4_put 12 = .ok (.ifCond .eq 12, 3) := by decide +kernel
theorem dX4_put_15 : decode cX4_put 15 = .ok (.aload_n 0, 1) := by decide +kernel
theorem dX4_put_16 : decode cX4_put 16 = .ok (.getfield 75, 3) := by decide +kernel
theorem dX4_put_19 : decode cX4_put 19 = .ok (.bipush 20, 2) := by decide +kernel
theorem dX4_put_21 : decode cX4_put 21 = .ok (.if_icmp .lt 5, 3) := by decide +kernel
theorem dX4_put_24 : decode cX4_put 24 = .ok (.iconst 0, 1) := by decide +kernel
theorem dX4_put_25 : decode cX4_put 25 = .ok (.ireturn, 1) := by decide +kernel
theorem dX4_put_26 : decode cX4_put 26 = .ok (.iconst 0, 1) := by decide +kernel
theorem dX4_put_27 : decode cX4_put 27 = .ok (.istore 4, 2) := by decide +kernel
theorem dX4_put_29 : decode cX4_put 29 = .ok (.iconst 0, 1) := by decide +kernel
theorem dX4_put_30 : decode cX4_put 30 = .ok (.istore 5, 2) := by decide +kernel
theorem dX4_put_32 : decode cX4_put 32 = .ok (.iload 5, 2) := by decide +kernel
theorem dX4_put_34 : decode cX4_put 34 = .ok (.aload_n 0, 1) := by decide +kernel
theorem dX4_put_35 : decode cX4_put 35 = .ok (.getfield 93, 3) := by decide +kernel
theorem dX4_put_38 : decode cX4_put 38 = .ok (.if_icmp .ge 32, 3) := by decide +kernel
theorem dX4_put_41 : decode cX4_put 41 = .ok (.iload 4, 2) := by decide +kernel
theorem dX4_put_43 : decode cX4_put 43 = .ok (.ifCond .ne 14, 3) := by decide +kernel
theorem dX4_put_46 : decode cX4_put 46 = .ok (.aload_n 0, 1) := by decide +kernel
theorem dX4_put_47 : decode cX4_put 47 = .ok (.getfield 38, 3) := by decide +kernel
theorem dX4_put_50 : decode cX4_put 50 = .ok (.iload 5, 2) := by decide +kernel
theorem dX4_put_52 : decode cX4_put 52 = .ok (.iaload, 1) := by decide +kernel
theorem dX4_put_53 : decode cX4_put 53 = .ok (.iload_n 2, 1) := by decide +kernel
theorem dX4_put_54 : decode cX4_put 54 = .ok (.if_icmp .ne 7, 3) := by decide +kernel
theorem dX4_put_57 : decode cX4_put 57 = .ok (.iconst 1, 1) := by decide +kernel
theorem dX4_put_58 : decode cX4_put 58 = .ok (.goto 4, 3) := by decide +kernel
theorem dX4_put_61 : decode cX4_put 61 = .ok (.iconst 0, 1) := by decide +kernel
theorem dX4_put_62 : decode cX4_put 62 = .ok (.istore 4, 2) := by decide +kernel
theorem dX4_put_64 : decode cX4_put 64 = .ok (.iinc 5 1, 3) := by decide +kernel
theorem dX4_put_67 : decode cX4_put 67 = .ok (.goto (-35), 3) := by decide +kernel
theorem dX4_put_70 : decode cX4_put 70 = .ok (.iload 4, 2) := by decide +kernel
theorem dX4_put_72 : decode cX4_put 72 = .ok (.ifCond .ne 14, 3) := by decide +kernel
theorem dX4_put_75 : decode cX4_put 75 = .ok (.aload_n 0, 1) := by decide +kernel
theorem dX4_put_76 : decode cX4_put 76 = .ok (.getfield 93, 3) := by decide +kernel
theorem dX4_put_79 : decode cX4_put 79 = .ok (.bipush 10, 2) := by decide +kernel
theorem dX4_put_81 : decode cX4_put 81 = .ok (.if_icmp .lt 5, 3) := by decide +kernel
theorem dX4_put_84 : decode cX4_put 84 = .ok (.iconst 0, 1) := by decide +kernel
theorem dX4_put_85 : decode cX4_put 85 = .ok (.ireturn, 1) := by decide +kernel
theorem dX4_put_86 : decode cX4_put 86 = .ok (.iload 4, 2) := by decide +kernel
theorem dX4_put_88 : decode cX4_put 88 = .ok (.ifCond .ne 23, 3) := by decide +kernel
theorem dX4_put_91 : decode cX4_put 91 = .ok (.aload_n 0, 1) := by decide +kernel
theorem dX4_put_92 : decode cX4_put 92 = .ok (.getfield 38, 3) := by decide +kernel
theorem dX4_put_95 : decode cX4_put 95 = .ok (.aload_n 0, 1) := by decide +kernel
theorem dX4_put_96 : decode cX4_put 96 = .ok (.getfield 93, 3) := by decide +kernel
theorem dX4_put_99 : decode cX4_put 99 = .ok (.iload_n 2, 1) := by decide +kernel
theorem dX4_put_100 : decode cX4_put 100 = .ok (.iastore, 1) := by decide +kernel
theorem dX4_put_101 : decode cX4_put 101 = .ok (.aload_n 0, 1) := by decide +kernel
theorem dX4_put_102 : decode cX4_put 102 = .ok (.dup, 1) := by decide +kernel
theorem dX4_put_103 : decode cX4_put 103 = .ok (.getfield 93, 3) := by decide +kernel
theorem dX4_put_106 : decode cX4_put 106 = .ok (.iconst 1, 1) := by decide +kernel
theorem dX4_put_107 : decode cX4_put 107 = .ok (.iadd, 1) := by decide +kernel
theorem dX4_put_108 : decode cX4_put 108 = .ok (.putfield 93, 3) := by decide +kernel
theorem dX4_put_111 : decode cX4_put 111 = .ok (.aload_n 0, 1) := by decide +kernel
theorem dX4_put_112 : decode cX4_put 112 = .ok (.iload_n 1, 1) := by decide +kernel
theorem dX4_put_113 : decode cX4_put 113 = .ok (.iload_n 2, 1) := by decide +kernel
theorem dX4_put_114 : decode cX4_put 114 = .ok (.iconst 2, 1) := by decide +kernel
theorem dX4_put_115 : decode cX4_put 115 = .ok (.iconst 0, 1) := by decide +kernel
theorem dX4_put_116 : decode cX4_put 116 = .ok (.iload_n 3, 1) := by decide +kernel
theorem dX4_put_117 : decode cX4_put 117 = .ok (.i2l, 1) := by decide +kernel
theorem dX4_put_118 : decode cX4_put 118 = .ok (.invokevirtual 89, 3) := by decide +kernel
theorem dX4_put_121 : decode cX4_put 121 = .ok (.iconst 1, 1) := by decide +kernel
theorem dX4_put_122 : decode cX4_put 122 = .ok (.ireturn, 1) := by decide +kernel
theorem dX4_get_0 : decode cX4_get 0 = .ok (.aload_n 0, 1) := by decide +kernel
theorem dX4_get_1 : decode cX4_get 1 = .ok (.iload_n 1, 1) := by decide +kernel
theorem dX4_get_2 : decode cX4_get 2 = .ok (.invokevirtual 86, 3) := by decide +kernel
theorem dX4_get_5 : decode cX4_get 5 = .ok (.ifCond .eq 19, 3) := by decide +kernel
theorem dX4_get_8 : decode cX4_get 8 = .ok (.iload_n 2, 1) := by decide +kernel
theorem dX4_get_9 : decode cX4_get 9 = .ok (.invokestatic 67, 3) := by decide +kernel
theorem dX4_get_12 : decode cX4_get 12 = .ok (.ifCond .eq 12, 3) := by decide +kernel
theorem dX4_get_15 : decode cX4_get 15 = .ok (.aload_n 0, 1) := by decide +kernel
theorem dX4_get_16 : decode cX4_get 16 = .ok (.getfield 75, 3) := by decide +kernel
theorem dX4_get_19 : decode cX4_get 19 = .ok (.bipush 20, 2) := by decide +kernel
theorem dX4_get_21 : decode cX4_get 21 = .ok (.if_icmp .lt 5, 3) := by decide +kernel
theorem dX4_get_24 : decode cX4_get 24 = .ok (.iconst 0, 1) := by decide +kernel
theorem dX4_get_25 : decode cX4_get 25 = .ok (.ireturn, 1) := by decide +kernel
theorem dX4_get_26 : decode cX4_get 26 = .ok (.aload_n 0, 1) := by decide +kernel
theorem dX4_get_27 : decode cX4_get 27 = .ok (.iload_n 1, 1) := by decide +kernel
theorem dX4_get_28 : decode cX4_get 28 = .ok (.iload_n 2, 1) := by decide +kernel
theorem dX4_get_29 : decode cX4_get 29 = .ok (.iconst 3, 1) := by decide +kernel
theorem dX4_get_30 : decode cX4_get 30 = .ok (.iconst 0, 1) := by decide +kernel
theorem dX4_get_31 : decode cX4_get 31 = .ok (.lconst 0, 1) := by decide +kernel
theorem dX4_get_32 : decode cX4_get 32 = .ok (.invokevirtual 89, 3) := by decide +kernel
theorem dX4_get_35 : decode cX4_get 35 = .ok (.iconst 1, 1) := by decide +kernel
theorem dX4_get_36 : decode cX4_get 36 = .ok (.ireturn, 1) := by decide +kernel
theorem dX4_entryAt_0 : decode cX4_entryAt 0 = .ok (.iconst (-1), 1) := by decide +kernel
theorem dX4_entryAt_1 : decode cX4_entryAt 1 = .ok (.istore_n 3, 1) := by decide +kernel
theorem dX4_entryAt_2 : decode cX4_entryAt 2 = .ok (.iconst 0, 1) := by decide +kernel
theorem dX4_entryAt_3 : decode cX4_entryAt 3 = .ok (.istore 4, 2) := by decide +kernel
theorem dX4_entryAt_5 : decode cX4_entryAt 5 = .ok (.iload 4, 2) := by decide +kernel
theorem dX4_entryAt_7 : decode cX4_entryAt 7 = .ok (.aload_n 0, 1) := by decide +kernel
theorem dX4_entryAt_8 : decode cX4_entryAt 8 = .ok (.getfield 96, 3) := by decide +kernel
theorem dX4_entryAt_11 : decode cX4_entryAt 11 = .ok (.if_icmp .ge 38, 3) := by decide +kernel
theorem dX4_entryAt_14 : decode cX4_entryAt 14 = .ok (.aload_n 0, 1) := by decide +kernel
theorem dX4_entryAt_15 : decode cX4_entryAt 15 = .ok (.getfield 29, 3) := by decide +kernel
theorem dX4_entryAt_18 : decode cX4_entryAt 18 = .ok (.iload 4, 2) := by decide +kernel
theorem dX4_entryAt_20 : decode cX4_entryAt 20 = .ok (.iaload, 1) := by decide +kernel
theorem dX4_entryAt_21 : decode cX4_entryAt 21 = .ok (.iload_n 1, 1) := by decide +kernel
theorem dX4_entryAt_22 : decode cX4_entryAt 22 = .ok (.if_icmp .ne 19, 3) := by decide +kernel
theorem dX4_entryAt_25 : decode cX4_entryAt 25 = .ok (.aload_n 0, 1) := by decide +kernel
theorem dX4_entryAt_26 : decode cX4_entryAt 26 = .ok (.getfield 32, 3) := by decide +kernel
theorem dX4_entryAt_29 : decode cX4_entryAt 29 = .ok (.iload 4, 2) := by decide +kernel
theorem dX4_entryAt_31 : decode cX4_entryAt 31 = .ok (.iaload, 1) := by decide +kernel
theorem dX4_entryAt_32 : decode cX4_entryAt 32 = .ok (.iload_n 2, 1) := by decide +kernel
theorem dX4_entryAt_33 : decode cX4_entryAt 33 = .ok (.if_icmp .ne 8, 3) := by decide +kernel
theorem dX4_entryAt_36 : decode cX4_entryAt 36 = .ok (.iload 4, 2) := by decide +kernel
theorem dX4_entryAt_38 : decode cX4_entryAt 38 = .ok (.goto 4, 3) := by decide +kernel
theorem dX4_entryAt_41 : decode cX4_entryAt 41 = .ok (.iload_n 3, 1) := by decide +kernel
theorem dX4_entryAt_42 : decode cX4_entryAt 42 = .ok (.istore_n 3, 1) := by decide +kernel
theorem dX4_entryAt_43 : decode cX4_entryAt 43 = .ok (.iinc 4 1, 3) := by decide +kernel
theorem dX4_entryAt_46 : decode cX4_entryAt 46 = .ok (.goto (-41), 3) := by decide +kernel
theorem dX4_entryAt_49 : decode cX4_entryAt 49 = .ok (.iload_n 3, 1) := by decide +kernel
theorem dX4_entryAt_50 : decode cX4_entryAt 50 = .ok (.ireturn, 1) := by decide +kernel
theorem dX4_keep_0 : decode cX4_keep 0 = .ok (.aload_n 0, 1) := by decide +kernel
theorem dX4_keep_1 : decode cX4_keep 1 = .ok (.iload_n 1, 1) := by decide +kernel
theorem dX4_keep_2 : decode cX4_keep 2 = .ok (.iload_n 2, 1) := by decide +kernel
theorem dX4_keep_3 : decode cX4_keep 3 = .ok (.invokevirtual 99, 3) := by decide +kernel
theorem dX4_keep_6 : decode cX4_keep 6 = .ok (.istore 4, 2) := by decide +kernel
theorem dX4_keep_8 : decode cX4_keep 8 = .ok (.iload 4, 2) := by decide +kernel
theorem dX4_keep_10 : decode cX4_keep 10 = .ok (.ifCond .ge 35, 3) := by decide +kernel
theorem dX4_keep_13 : decode cX4_keep 13 = .ok (.aload_n 0, 1) := by decide +kernel
theorem dX4_keep_14 : decode cX4_keep 14 = .ok (.getfield 96, 3) := by decide +kernel
theorem dX4_keep_17 : decode cX4_keep 17 = .ok (.istore 4, 2) := by decide +kernel
theorem dX4_keep_19 : decode cX4_keep 19 = .ok (.aload_n 0, 1) := by decide +kernel
theorem dX4_keep_20 : decode cX4_keep 20 = .ok (.dup, 1) := by decide +kernel
theorem dX4_keep_21 : decode cX4_keep 21 = .ok (.getfield 96, 3) := by decide +kernel
theorem dX4_keep_24 : decode cX4_keep 24 = .ok (.iconst 1, 1) := by decide +kernel
theorem dX4_keep_25 : decode cX4_keep 25 = .ok (.iadd, 1) := by decide +kernel
theorem dX4_keep_26 : decode cX4_keep 26 = .ok (.putfield 96, 3) := by decide +kernel
theorem dX4_keep_29 : decode cX4_keep 29 = .ok (.aload_n 0, 1) := by decide +kernel
theorem dX4_keep_30 : decode cX4_keep 30 = .ok (.getfield 29, 3) := by decide +kernel
theorem dX4_keep_33 : decode cX4_keep 33 = .ok (.iload 4, 2) := by decide +kernel
theorem dX4_keep_35 : decode cX4_keep 35 = .ok (.iload_n 1, 1) := by decide +kernel
theorem dX4_keep_36 : decode cX4_keep 36 = .ok (.iastore, 1) := by decide +kernel
theorem dX4_keep_37 : decode cX4_keep 37 = .ok (.aload_n 0, 1) := by decide +kernel
theorem dX4_keep_38 : decode cX4_keep 38 = .ok (.getfield 32, 3) := by decide +kernel
theorem dX4_keep_41 : decode cX4_keep 41 = .ok (.iload 4, 2) := by decide +kernel
theorem dX4_keep_43 : decode cX4_keep 43 = .ok (.iload_n 2, 1) := by decide +kernel
theorem dX4_keep_44 : decode cX4_keep 44 = .ok (.iastore, 1) := by decide +kernel
theorem dX4_keep_45 : decode cX4_keep 45 = .ok (.aload_n 0, 1) := by decide +kernel
theorem dX4_keep_46 : decode cX4_keep 46 = .ok (.getfield 35, 3) := by decide +kernel
theorem dX4_keep_49 : decode cX4_keep 49 = .ok (.iload 4, 2) := by decide +kernel
theorem dX4_keep_51 : decode cX4_keep 51 = .ok (.iload_n 3, 1) := by decide +kernel
theorem dX4_keep_52 : decode cX4_keep 52 = .ok (.iastore, 1) := by decide +kernel
theorem dX4_keep_53 : decode cX4_keep 53 = .ok (.return_, 1) := by decide +kernel
theorem dX4_dropEntry_0 : decode cX4_dropEntry 0 = .ok (.aload_n 0, 1) := by decide +kernel
theorem dX4_dropEntry_1 : decode cX4_dropEntry 1 = .ok (.dup, 1) := by decide +kernel
theorem dX4_dropEntry_2 : decode cX4_dropEntry 2 = .ok (.getfield 96, 3) := by decide +kernel
theorem dX4_dropEntry_5 : decode cX4_dropEntry 5 = .ok (.iconst 1, 1) := by decide +kernel
theorem dX4_dropEntry_6 : decode cX4_dropEntry 6 = .ok (.isub, 1) := by decide +kernel
theorem dX4_dropEntry_7 : decode cX4_dropEntry 7 = .ok (.putfield 96, 3) := by decide +kernel
theorem dX4_dropEntry_10 : decode cX4_dropEntry 10 = .ok (.iload_n 1, 1) := by decide +kernel
theorem dX4_dropEntry_11 : decode cX4_dropEntry 11 = .ok (.istore_n 2, 1) := by decide +kernel
theorem dX4_dropEntry_12 : decode cX4_dropEntry 12 = .ok (.iload_n 2, 1) := by decide +kernel
theorem dX4_dropEntry_13 : decode cX4_dropEntry 13 = .ok (.aload_n 0, 1) := by decide +kernel
theorem dX4_dropEntry_14 : decode cX4_dropEntry 14 = .ok (.getfield 96, 3) := by decide +kernel
theorem dX4_dropEntry_17 : decode cX4_dropEntry 17 = .ok (.if_icmp .ge 51, 3) := by decide +kernel
theorem dX4_dropEntry_20 : decode cX4_dropEntry 20 = .ok (.aload_n 0, 1) := by decide +kernel
theorem dX4_dropEntry_21 : decode cX4_dropEntry 21 = .ok (.getfield 29, 3) := by decide +kernel
theorem dX4_dropEntry_24 : decode cX4_dropEntry 24 = .ok (.iload_n 2, 1) := by decide +kernel
theorem dX4_dropEntry_25 : decode cX4_dropEntry 25 = .ok (.aload_n 0, 1) := by decide +kernel
theorem dX4_dropEntry_26 : decode cX4_dropEntry 26 = .ok (.getfield 29, 3) := by decide +kernel
theorem dX4_dropEntry_29 : decode cX4_dropEntry 29 = .ok (.iload_n 2, 1) := by decide +kernel
theorem dX4_dropEntry_30 : decode cX4_dropEntry 30 = .ok (.iconst 1, 1) := by decide +kernel
theorem dX4_dropEntry_31 : decode cX4_dropEntry 31 = .ok (.iadd, 1) := by decide +kernel
theorem dX4_dropEntry_32 : decode cX4_dropEntry 32 = .ok (.iaload, 1) := by decide +kernel
theorem dX4_dropEntry_33 : decode cX4_dropEntry 33 = .ok (.iastore, 1) := by decide +kernel
theorem dX4_dropEntry_34 : decode cX4_dropEntry 34 = .ok (.aload_n 0, 1) := by decide +kernel
theorem dX4_dropEntry_35 : decode cX4_dropEntry 35 = .ok (.getfield 32, 3) := by decide +kernel
theorem dX4_dropEntry_38 : decode cX4_dropEntry 38 = .ok (.iload_n 2, 1) := by decide +kernel
theorem dX4_dropEntry_39 : decode cX4_dropEntry 39 = .ok (.aload_n 0, 1) := by decide +kernel
theorem dX4_dropEntry_40 : decode cX4_dropEntry 40 = .ok (.getfield 32, 3) := by decide +kernel
theorem dX4_dropEntry_43 : decode cX4_dropEntry 43 = .ok (.iload_n 2, 1) := by decide +kernel
theorem dX4_dropEntry_44 : decode cX4_dropEntry 44 = .ok (.iconst 1, 1) := by decide +kernel
theorem dX4_dropEntry_45 : decode cX4_dropEntry 45 = .ok (.iadd, 1) := by decide +kernel
theorem dX4_dropEntry_46 : decode cX4_dropEntry 46 = .ok (.iaload, 1) := by decide +kernel
theorem dX4_dropEntry_47 : decode cX4_dropEntry 47 = .ok (.iastore, 1) := by decide +kernel
theorem dX4_dropEntry_48 : decode cX4_dropEntry 48 = .ok (.aload_n 0, 1) := by decide +kernel
theorem dX4_dropEntry_49 : decode cX4_dropEntry 49 = .ok (.getfield 35, 3) := by decide +kernel
theorem dX4_dropEntry_52 : decode cX4_dropEntry 52 = .ok (.iload_n 2, 1) := by decide +kernel
theorem dX4_dropEntry_53 : decode cX4_dropEntry 53 = .ok (.aload_n 0, 1) := by decide +kernel
theorem dX4_dropEntry_54 : decode cX4_dropEntry 54 = .ok (.getfield 35, 3) := by decide +kernel
theorem dX4_dropEntry_57 : decode cX4_dropEntry 57 = .ok (.iload_n 2, 1) := by decide +kernel
theorem dX4_dropEntry_58 : decode cX4_dropEntry 58 = .ok (.iconst 1, 1) := by decide +kernel
theorem dX4_dropEntry_59 : decode cX4_dropEntry 59 = .ok (.iadd, 1) := by decide +kernel
theorem dX4_dropEntry_60 : decode cX4_dropEntry 60 = .ok (.iaload, 1) := by decide +kernel
theorem dX4_dropEntry_61 : decode cX4_dropEntry 61 = .ok (.iastore, 1) := by decide +kernel
theorem dX4_dropEntry_62 : decode cX4_dropEntry 62 = .ok (.iinc 2 1, 3) := by decide +kernel
theorem dX4_dropEntry_65 : decode cX4_dropEntry 65 = .ok (.goto (-53), 3) := by decide +kernel
theorem dX4_dropEntry_68 : decode cX4_dropEntry 68 = .ok (.return_, 1) := by decide +kernel
theorem dX4_handOver_0 : decode cX4_handOver 0 = .ok (.iconst 0, 1) := by decide +kernel
theorem dX4_handOver_1 : decode cX4_handOver 1 = .ok (.istore_n 3, 1) := by decide +kernel
theorem dX4_handOver_2 : decode cX4_handOver 2 = .ok (.iload_n 3, 1) := by decide +kernel
theorem dX4_handOver_3 : decode cX4_handOver 3 = .ok (.aload_n 0, 1) := by decide +kernel
theorem dX4_handOver_4 : decode cX4_handOver 4 = .ok (.getfield 96, 3) := by decide +kernel
theorem dX4_handOver_7 : decode cX4_handOver 7 = .ok (.if_icmp .ge 68, 3) := by decide +kernel
theorem dX4_handOver_10 : decode cX4_handOver 10 = .ok (.aload_n 0, 1) := by decide +kernel
theorem dX4_handOver_11 : decode cX4_handOver 11 = .ok (.getfield 29, 3) := by decide +kernel
theorem dX4_handOver_14 : decode cX4_handOver 14 = .ok (.iload_n 3, 1) := by decide +kernel
theorem dX4_handOver_15 : decode cX4_handOver 15 = .ok (.iaload, 1) := by decide +kernel
theorem dX4_handOver_16 : decode cX4_handOver 16 = .ok (.iload_n 1, 1) := by decide +kernel
theorem dX4_handOver_17 : decode cX4_handOver 17 = .ok (.if_icmp .ne 52, 3) := by decide +kernel
theorem dX4_handOver_20 : decode cX4_handOver 20 = .ok (.aload_n 0, 1) := by decide +kernel
theorem dX4_handOver_21 : decode cX4_handOver 21 = .ok (.getfield 32, 3) := by decide +kernel
theorem dX4_handOver_24 : decode cX4_handOver 24 = .ok (.iload_n 3, 1) := by decide +kernel
theorem dX4_handOver_25 : decode cX4_handOver 25 = .ok (.iaload, 1) := by decide +kernel
theorem dX4_handOver_26 : decode cX4_handOver 26 = .ok (.iload_n 2, 1) := by decide +kernel
theorem dX4_handOver_27 : decode cX4_handOver 27 = .ok (.iload_n 1, 1) := by decide +kernel
theorem dX4_handOver_28 : decode cX4_handOver 28 = .ok (.invokestatic 71, 3) := by decide +kernel
theorem dX4_handOver_31 : decode cX4_handOver 31 = .ok (.ifCond .ne 38, 3) := by decide +kernel
theorem dX4_handOver_34 : decode cX4_handOver 34 = .ok (.aload_n 0, 1) := by decide +kernel
theorem dX4_handOver_35 : decode cX4_handOver 35 = .ok (.getfield 32, 3) := by decide +kernel
theorem dX4_handOver_38 : decode cX4_handOver 38 = .ok (.iload_n 3, 1) := by decide +kernel
theorem dX4_handOver_39 : decode cX4_handOver 39 = .ok (.iaload, 1) := by decide +kernel
theorem dX4_handOver_40 : decode cX4_handOver 40 = .ok (.istore 4, 2) := by decide +kernel
theorem dX4_handOver_42 : decode cX4_handOver 42 = .ok (.aload_n 0, 1) := by decide +kernel
theorem dX4_handOver_43 : decode cX4_handOver 43 = .ok (.getfield 35, 3) := by decide +kernel
theorem dX4_handOver_46 : decode cX4_handOver 46 = .ok (.iload_n 3, 1) := by decide +kernel
theorem dX4_handOver_47 : decode cX4_handOver 47 = .ok (.iaload, 1) := by decide +kernel
theorem dX4_handOver_48 : decode cX4_handOver 48 = .ok (.istore 5, 2) := by decide +kernel
theorem dX4_handOver_50 : decode cX4_handOver 50 = .ok (.aload_n 0, 1) := by decide +kernel
theorem dX4_handOver_51 : decode cX4_handOver 51 = .ok (.iload_n 3, 1) := by decide +kernel
theorem dX4_handOver_52 : decode cX4_handOver 52 = .ok (.invokevirtual 103, 3) := by decide +kernel
theorem dX4_handOver_55 : decode cX4_handOver 55 = .ok (.aload_n 0, 1) := by decide +kernel
theorem dX4_handOver_56 : decode cX4_handOver 56 = .ok (.iload_n 2, 1) := by decide +kernel
theorem dX4_handOver_57 : decode cX4_handOver 57 = .ok (.iload 4, 2) := by decide +kernel
theorem dX4_handOver_59 : decode cX4_handOver 59 = .ok (.iload 5, 2) := by decide +kernel
theorem dX4_handOver_61 : decode cX4_handOver 61 = .ok (.invokevirtual 107, 3) := by decide +kernel
theorem dX4_handOver_64 : decode cX4_handOver 64 = .ok (.iconst 0, 1) := by decide +kernel
theorem dX4_handOver_65 : decode cX4_handOver 65 = .ok (.istore_n 3, 1) := by decide +kernel
theorem dX4_handOver_66 : decode cX4_handOver 66 = .ok (.goto (-64), 3) := by decide +kernel
theorem dX4_handOver_69 : decode cX4_handOver 69 = .ok (.iinc 3 1, 3) := by decide +kernel
theorem dX4_handOver_72 : decode cX4_handOver 72 = .ok (.goto (-70), 3) := by decide +kernel
theorem dX4_handOver_75 : decode cX4_handOver 75 = .ok (.return_, 1) := by decide +kernel
theorem dX4_arrive_0 : decode cX4_arrive 0 = .ok (.aload_n 0, 1) := by decide +kernel
theorem dX4_arrive_1 : decode cX4_arrive 1 = .ok (.iload_n 1, 1) := by decide +kernel
theorem dX4_arrive_2 : decode cX4_arrive 2 = .ok (.bipush 20, 2) := by decide +kernel
theorem dX4_arrive_4 : decode cX4_arrive 4 = .ok (.invokevirtual 111, 3) := by decide +kernel
theorem dX4_arrive_7 : decode cX4_arrive 7 = .ok (.aload_n 0, 1) := by decide +kernel
theorem dX4_arrive_8 : decode cX4_arrive 8 = .ok (.dup, 1) := by decide +kernel
theorem dX4_arrive_9 : decode cX4_arrive 9 = .ok (.getfield 75, 3) := by decide +kernel
theorem dX4_arrive_12 : decode cX4_arrive 12 = .ok (.iconst 1, 1) := by decide +kernel
theorem dX4_arrive_13 : decode cX4_arrive 13 = .ok (.isub, 1) := by decide +kernel
theorem dX4_arrive_14 : decode cX4_arrive 14 = .ok (.putfield 75, 3) := by decide +kernel
theorem dX4_arrive_17 : decode cX4_arrive 17 = .ok (.iload_n 1, 1) := by decide +kernel
theorem dX4_arrive_18 : decode cX4_arrive 18 = .ok (.istore_n 2, 1) := by decide +kernel
theorem dX4_arrive_19 : decode cX4_arrive 19 = .ok (.iload_n 2, 1) := by decide +kernel
theorem dX4_arrive_20 : decode cX4_arrive 20 = .ok (.aload_n 0, 1) := by decide +kernel
theorem dX4_arrive_21 : decode cX4_arrive 21 = .ok (.getfield 75, 3) := by decide +kernel
theorem dX4_arrive_24 : decode cX4_arrive 24 = .ok (.if_icmp .ge 17, 3) := by decide +kernel
theorem dX4_arrive_27 : decode cX4_arrive 27 = .ok (.aload_n 0, 1) := by decide +kernel
theorem dX4_arrive_28 : decode cX4_arrive 28 = .ok (.iload_n 2, 1) := by decide +kernel
theorem dX4_arrive_29 : decode cX4_arrive 29 = .ok (.iconst 1, 1) := by decide +kernel
theorem dX4_arrive_30 : decode cX4_arrive 30 = .ok (.iadd, 1) := by decide +kernel
theorem dX4_arrive_31 : decode cX4_arrive 31 = .ok (.iload_n 2, 1) := by decide +kernel
theorem dX4_arrive_32 : decode cX4_arrive 32 = .ok (.invokevirtual 111, 3) := by decide +kernel
theorem dX4_arrive_35 : decode cX4_arrive 35 = .ok (.iinc 2 1, 3) := by decide +kernel
theorem dX4_arrive_38 : decode cX4_arrive 38 = .ok (.goto (-19), 3) := by decide +kernel
theorem dX4_arrive_41 : decode cX4_arrive 41 = .ok (.aload_n 0, 1) := by decide +kernel
theorem dX4_arrive_42 : decode cX4_arrive 42 = .ok (.getfield 44, 3) := by decide +kernel
theorem dX4_arrive_45 : decode cX4_arrive 45 = .ok (.bipush 20, 2) := by decide +kernel
theorem dX4_arrive_47 : decode cX4_arrive 47 = .ok (.iaload, 1) := by decide +kernel
theorem dX4_arrive_48 : decode cX4_arrive 48 = .ok (.istore_n 2, 1) := by decide +kernel
theorem dX4_arrive_49 : decode cX4_arrive 49 = .ok (.aload_n 0, 1) := by decide +kernel
theorem dX4_arrive_50 : decode cX4_arrive 50 = .ok (.getfield 41, 3) := by decide +kernel
theorem dX4_arrive_53 : decode cX4_arrive 53 = .ok (.bipush 20, 2) := by decide +kernel
theorem dX4_arrive_55 : decode cX4_arrive 55 = .ok (.iaload, 1) := by decide +kernel
theorem dX4_arrive_56 : decode cX4_arrive 56 = .ok (.tableswitch 164 1 7 #[44, 52, 60, 83, 91, 120, 156], 44) := by decide +kernel
theorem dX4_arrive_100 : decode cX4_arrive 100 = .ok (.aload_n 0, 1) := by decide +kernel
theorem dX4_arrive_101 : decode cX4_arrive 101 = .ok (.iload_n 2, 1) := by decide +kernel
theorem dX4_arrive_102 : decode cX4_arrive 102 = .ok (.invokevirtual 115, 3) := by decide +kernel
theorem dX4_arrive_105 : decode cX4_arrive 105 = .ok (.goto 120, 3) := by decide +kernel
theorem dX4_arrive_108 : decode cX4_arrive 108 = .ok (.aload_n 0, 1) := by decide +kernel
theorem dX4_arrive_109 : decode cX4_arrive 109 = .ok (.iload_n 2, 1) := by decide +kernel
theorem dX4_arrive_110 : decode cX4_arrive 110 = .ok (.invokevirtual 118, 3) := by decide +kernel
theorem dX4_arrive_113 : decode cX4_arrive 113 = .ok (.goto 112, 3) := by decide +kernel
theorem dX4_arrive_116 : decode cX4_arrive 116 = .ok (.aload_n 0, 1) := by decide +kernel
theorem dX4_arrive_117 : decode cX4_arrive 117 = .ok (.iload_n 2, 1) := by decide +kernel
theorem dX4_arrive_118 : decode cX4_arrive 118 = .ok (.aload_n 0, 1) := by decide +kernel
theorem dX4_arrive_119 : decode cX4_arrive 119 = .ok (.getfield 47, 3) := by decide +kernel
theorem dX4_arrive_122 : decode cX4_arrive 122 = .ok (.bipush 20, 2) := by decide +kernel
theorem dX4_arrive_124 : decode cX4_arrive 124 = .ok (.iaload, 1) := by decide +kernel
theorem dX4_arrive_125 : decode cX4_arrive 125 = .ok (.aload_n 0, 1) := by decide +kernel
theorem dX4_arrive_126 : decode cX4_arrive 126 = .ok (.getfield 62, 3) := by decide +kernel
theorem dX4_arrive_129 : decode cX4_arrive 129 = .ok (.bipush 20, 2) := by decide +kernel
theorem dX4_arrive_131 : decode cX4_arrive 131 = .ok (.laload, 1) := by decide +kernel
theorem dX4_arrive_132 : decode cX4_arrive 132 = .ok (.l2i, 1) := by decide +kernel
theorem dX4_arrive_133 : decode cX4_arrive 133 = .ok (.invokevirtual 107, 3) := by decide +kernel
theorem dX4_arrive_136 : decode cX4_arrive 136 = .ok (.goto 89, 3) := by decide +kernel
theorem dX4_arrive_139 : decode cX4_arrive 139 = .ok (.aload_n 0, 1) := by decide +kernel
theorem dX4_arrive_140 : decode cX4_arrive 140 = .ok (.iload_n 2, 1) := by decide +kernel
theorem dX4_arrive_141 : decode cX4_arrive 141 = .ok (.invokevirtual 121, 3) := by decide +kernel
theorem dX4_arrive_144 : decode cX4_arrive 144 = .ok (.goto 81, 3) := by decide +kernel
theorem dX4_arrive_147 : decode cX4_arrive 147 = .ok (.aload_n 0, 1) := by decide +kernel
theorem dX4_arrive_148 : decode cX4_arrive 148 = .ok (.getfield 22, 3) := by decide +kernel
theorem dX4_arrive_151 : decode cX4_arrive 151 = .ok (.iload_n 2, 1) := by decide +kernel
theorem dX4_arrive_152 : decode cX4_arrive 152 = .ok (.aload_n 0, 1) := by decide +kernel
theorem dX4_arrive_153 : decode cX4_arrive 153 = .ok (.getfield 62, 3) := by decide +kernel
theorem dX4_arrive_156 : decode cX4_arrive 156 = .ok (.bipush 20, 2) := by decide +kernel
theorem dX4_arrive_158 : decode cX4_arrive 158 = .ok (.laload, 1) := by decide +kernel
theorem dX4_arrive_159 : decode cX4_arrive 159 = .ok (.lastore, 1) := by decide +kernel
theorem dX4_arrive_160 : decode cX4_arrive 160 = .ok (.aload_n 0, 1) := by decide +kernel
theorem dX4_arrive_161 : decode cX4_arrive 161 = .ok (.getfield 26, 3) := by decide +kernel
theorem dX4_arrive_164 : decode cX4_arrive 164 = .ok (.iload_n 2, 1) := by decide +kernel
theorem dX4_arrive_165 : decode cX4_arrive 165 = .ok (.aload_n 0, 1) := by decide +kernel
theorem dX4_arrive_166 : decode cX4_arrive 166 = .ok (.getfield 59, 3) := by decide +kernel
theorem dX4_arrive_169 : decode cX4_arrive 169 = .ok (.bipush 20, 2) := by decide +kernel
theorem dX4_arrive_171 : decode cX4_arrive 171 = .ok (.iaload, 1) := by decide +kernel
theorem dX4_arrive_172 : decode cX4_arrive 172 = .ok (.iastore, 1) := by decide +kernel
theorem dX4_arrive_173 : decode cX4_arrive 173 = .ok (.goto 52, 3) := by decide +kernel
theorem dX4_arrive_176 : decode cX4_arrive 176 = .ok (.aload_n 0, 1) := by decide +kernel
theorem dX4_arrive_177 : decode cX4_arrive 177 = .ok (.bipush 7, 2) := by decide +kernel
theorem dX4_arrive_179 : decode cX4_arrive 179 = .ok (.aload_n 0, 1) := by decide +kernel
theorem dX4_arrive_180 : decode cX4_arrive 180 = .ok (.getfield 56, 3) := by decide +kernel
theorem dX4_arrive_183 : decode cX4_arrive 183 = .ok (.bipush 20, 2) := by decide +kernel
theorem dX4_arrive_185 : decode cX4_arrive 185 = .ok (.iaload, 1) := by decide +kernel
theorem dX4_arrive_186 : decode cX4_arrive 186 = .ok (.iconst 0, 1) := by decide +kernel
theorem dX4_arrive_187 : decode cX4_arrive 187 = .ok (.iconst 0, 1) := by decide +kernel
theorem dX4_arrive_188 : decode cX4_arrive 188 = .ok (.invokevirtual 79, 3) := by decide +kernel
theorem dX4_arrive_191 : decode cX4_arrive 191 = .ok (.aload_n 0, 1) := by decide +kernel
theorem dX4_arrive_192 : decode cX4_arrive 192 = .ok (.getfield 62, 3) := by decide +kernel
theorem dX4_arrive_195 : decode cX4_arrive 195 = .ok (.aload_n 0, 1) := by decide +kernel
theorem dX4_arrive_196 : decode cX4_arrive 196 = .ok (.getfield 75, 3) := by decide +kernel
theorem dX4_arrive_199 : decode cX4_arrive 199 = .ok (.iconst 1, 1) := by decide +kernel
theorem dX4_arrive_200 : decode cX4_arrive 200 = .ok (.isub, 1) := by decide +kernel
theorem dX4_arrive_201 : decode cX4_arrive 201 = .ok (.aload_n 0, 1) := by decide +kernel
theorem dX4_arrive_202 : decode cX4_arrive 202 = .ok (.getfield 16, 3) := by decide +kernel
theorem dX4_arrive_205 : decode cX4_arrive 205 = .ok (.iload_n 2, 1) := by decide +kernel
theorem dX4_arrive_206 : decode cX4_arrive 206 = .ok (.iaload, 1) := by decide +kernel
theorem dX4_arrive_207 : decode cX4_arrive 207 = .ok (.i2l, 1) := by decide +kernel
theorem dX4_arrive_208 : decode cX4_arrive 208 = .ok (.lastore, 1) := by decide +kernel
theorem dX4_arrive_209 : decode cX4_arrive 209 = .ok (.goto 16, 3) := by decide +kernel
theorem dX4_arrive_212 : decode cX4_arrive 212 = .ok (.aload_n 0, 1) := by decide +kernel
theorem dX4_arrive_213 : decode cX4_arrive 213 = .ok (.iload_n 2, 1) := by decide +kernel
theorem dX4_arrive_214 : decode cX4_arrive 214 = .ok (.invokevirtual 124, 3) := by decide +kernel
theorem dX4_arrive_217 : decode cX4_arrive 217 = .ok (.goto 8, 3) := by decide +kernel
theorem dX4_arrive_220 : decode cX4_arrive 220 = .ok (.aload_n 0, 1) := by decide +kernel
theorem dX4_arrive_221 : decode cX4_arrive 221 = .ok (.iload_n 2, 1) := by decide +kernel
theorem dX4_arrive_222 : decode cX4_arrive 222 = .ok (.invokevirtual 127, 3) := by decide +kernel
theorem dX4_arrive_225 : decode cX4_arrive 225 = .ok (.return_, 1) := by decide +kernel
theorem dX4_find_0 : decode cX4_find 0 = .ok (.aload_n 0, 1) := by decide +kernel
theorem dX4_find_1 : decode cX4_find 1 = .ok (.getfield 13, 3) := by decide +kernel
theorem dX4_find_4 : decode cX4_find 4 = .ok (.iload_n 1, 1) := by decide +kernel
theorem dX4_find_5 : decode cX4_find 5 = .ok (.iaload, 1) := by decide +kernel
theorem dX4_find_6 : decode cX4_find 6 = .ok (.istore_n 2, 1) := by decide +kernel
theorem dX4_find_7 : decode cX4_find 7 = .ok (.aload_n 0, 1) := by decide +kernel
theorem dX4_find_8 : decode cX4_find 8 = .ok (.getfield 47, 3) := by decide +kernel
theorem dX4_find_11 : decode cX4_find 11 = .ok (.bipush 20, 2) := by decide +kernel
theorem dX4_find_13 : decode cX4_find 13 = .ok (.iaload, 1) := by decide +kernel
theorem dX4_find_14 : decode cX4_find 14 = .ok (.iload_n 1, 1) := by decide +kernel
theorem dX4_find_15 : decode cX4_find 15 = .ok (.iload_n 2, 1) := by decide +kernel
theorem dX4_find_16 : decode cX4_find 16 = .ok (.invokestatic 71, 3) := by decide +kernel
theorem dX4_find_19 : decode cX4_find 19 = .ok (.ifCond .ne 113, 3) := by decide +kernel
theorem dX4_find_22 : decode cX4_find 22 = .ok (.iload_n 2, 1) := by decide +kernel
theorem dX4_find_23 : decode cX4_find 23 = .ok (.istore_n 3, 1) := by decide +kernel
theorem dX4_find_24 : decode cX4_find 24 = .ok (.iconst 0, 1) := by decide +kernel
theorem dX4_find_25 : decode cX4_find 25 = .ok (.istore 4, 2) := by decide +kernel
theorem dX4_find_27 : decode cX4_find 27 = .ok (.iload 4, 2) := by decide +kernel
theorem dX4_find_29 : decode cX4_find 29 = .ok (.bipush 8, 2) := by decide +kernel
theorem dX4_find_31 : decode cX4_find 31 = .ok (.if_icmp .ge 52, 3) := by decide +kernel
theorem dX4_find_34 : decode cX4_find 34 = .ok (.aload_n 0, 1) := by decide +kernel
theorem dX4_find_35 : decode cX4_find 35 = .ok (.getfield 19, 3) := by decide +kernel
theorem dX4_find_38 : decode cX4_find 38 = .ok (.bipush 8, 2) := by decide +kernel
theorem dX4_find_40 : decode cX4_find 40 = .ok (.iload_n 1, 1) := by decide +kernel
theorem dX4_find_41 : decode cX4_find 41 = .ok (.imul, 1) := by decide +kernel
theorem dX4_find_42 : decode cX4_find 42 = .ok (.iload 4, 2) := by decide +kernel
theorem dX4_find_44 : decode cX4_find 44 = .ok (.iadd, 1) := by decide +kernel
theorem dX4_find_45 : decode cX4_find 45 = .ok (.iaload, 1) := by decide +kernel
theorem dX4_find_46 : decode cX4_find 46 = .ok (.istore 5, 2) := by decide +kernel
theorem dX4_find_48 : decode cX4_find 48 = .ok (.iload 5, 2) := by decide +kernel
theorem dX4_find_50 : decode cX4_find 50 = .ok (.iconst (-1), 1) := by decide +kernel
theorem dX4_find_51 : decode cX4_find 51 = .ok (.if_icmp .eq 24, 3) := by decide +kernel
theorem dX4_find_54 : decode cX4_find 54 = .ok (.iload 5, 2) := by decide +kernel
theorem dX4_find_56 : decode cX4_find 56 = .ok (.iload_n 1, 1) := by decide +kernel
theorem dX4_find_57 : decode cX4_find 57 = .ok (.aload_n 0, 1) := by decide +kernel
theorem dX4_find_58 : decode cX4_find 58 = .ok (.getfield 47, 3) := by decide +kernel
theorem dX4_find_61 : decode cX4_find 61 = .ok (.bipush 20, 2) := by decide +kernel
theorem dX4_find_63 : decode cX4_find 63 = .ok (.iaload, 1) := by decide +kernel
theorem dX4_find_64 : decode cX4_find 64 = .ok (.invokestatic 130, 3) := by decide +kernel
theorem dX4_find_67 : decode cX4_find 67 = .ok (.ifCond .eq 8, 3) := by decide +kernel
theorem dX4_find_70 : decode cX4_find 70 = .ok (.iload 5, 2) := by decide +kernel
theorem dX4_find_72 : decode cX4_find 72 = .ok (.goto 4, 3) := by decide +kernel
theorem dX4_find_75 : decode cX4_find 75 = .ok (.iload_n 3, 1) := by decide +kernel
theorem dX4_find_76 : decode cX4_find 76 = .ok (.istore_n 3, 1) := by decide +kernel
theorem dX4_find_77 : decode cX4_find 77 = .ok (.iinc 4 1, 3) := by decide +kernel
theorem dX4_find_80 : decode cX4_find 80 = .ok (.goto (-53), 3) := by decide +kernel
theorem dX4_find_83 : decode cX4_find 83 = .ok (.aload_n 0, 1) := by decide +kernel
theorem dX4_find_84 : decode cX4_find 84 = .ok (.bipush 20, 2) := by decide +kernel
theorem dX4_find_86 : decode cX4_find 86 = .ok (.aload_n 0, 1) := by decide +kernel
theorem dX4_find_87 : decode cX4_find 87 = .ok (.getfield 75, 3) := by decide +kernel
theorem dX4_find_90 : decode cX4_find 90 = .ok (.invokevirtual 111, 3) := by decide +kernel
theorem dX4_find_93 : decode cX4_find 93 = .ok (.aload_n 0, 1) := by decide +kernel
theorem dX4_find_94 : decode cX4_find 94 = .ok (.getfield 44, 3) := by decide +kernel
theorem dX4_find_97 : decode cX4_find 97 = .ok (.aload_n 0, 1) := by decide +kernel
theorem dX4_find_98 : decode cX4_find 98 = .ok (.getfield 75, 3) := by decide +kernel
theorem dX4_find_101 : decode cX4_find 101 = .ok (.iload_n 3, 1) := by decide +kernel
theorem dX4_find_102 : decode cX4_find 102 = .ok (.iastore, 1) := by decide +kernel
theorem dX4_find_103 : decode cX4_find 103 = .ok (.aload_n 0, 1) := by decide +kernel
theorem dX4_find_104 : decode cX4_find 104 = .ok (.getfield 59, 3) := by decide +kernel
theorem dX4_find_107 : decode cX4_find 107 = .ok (.aload_n 0, 1) := by decide +kernel
theorem dX4_find_108 : decode cX4_find 108 = .ok (.getfield 75, 3) := by decide +kernel
theorem dX4_find_111 : decode cX4_find 111 = .ok (.aload_n 0, 1) := by decide +kernel
theorem dX4_find_112 : decode cX4_find 112 = .ok (.getfield 59, 3) := by decide +kernel
theorem dX4_find_115 : decode cX4_find 115 = .ok (.bipush 20, 2) := by decide +kernel
theorem dX4_find_117 : decode cX4_find 117 = .ok (.iaload, 1) := by decide +kernel
theorem dX4_find_118 : decode cX4_find 118 = .ok (.iconst 1, 1) := by decide +kernel
theorem dX4_find_119 : decode cX4_find 119 = .ok (.iadd, 1) := by decide +kernel
theorem dX4_find_120 : decode cX4_find 120 = .ok (.iastore, 1) := by decide +kernel
theorem dX4_find_121 : decode cX4_find 121 = .ok (.aload_n 0, 1) := by decide +kernel
theorem dX4_find_122 : decode cX4_find 122 = .ok (.dup, 1) := by decide +kernel
theorem dX4_find_123 : decode cX4_find 123 = .ok (.getfield 75, 3) := by decide +kernel
theorem dX4_find_126 : decode cX4_find 126 = .ok (.iconst 1, 1) := by decide +kernel
theorem dX4_find_127 : decode cX4_find 127 = .ok (.iadd, 1) := by decide +kernel
theorem dX4_find_128 : decode cX4_find 128 = .ok (.putfield 75, 3) := by decide +kernel
theorem dX4_find_131 : decode cX4_find 131 = .ok (.return_, 1) := by decide +kernel
theorem dX4_find_132 : decode cX4_find 132 = .ok (.aload_n 0, 1) := by decide +kernel
theorem dX4_find_133 : decode cX4_find 133 = .ok (.getfield 50, 3) := by decide +kernel
theorem dX4_find_136 : decode cX4_find 136 = .ok (.bipush 20, 2) := by decide +kernel
theorem dX4_find_138 : decode cX4_find 138 = .ok (.iaload, 1) := by decide +kernel
theorem dX4_find_139 : decode cX4_find 139 = .ok (.ifCond .eq 14, 3) := by decide +kernel
theorem dX4_find_142 : decode cX4_find 142 = .ok (.aload_n 0, 1) := by decide +kernel
theorem dX4_find_143 : decode cX4_find 143 = .ok (.getfield 50, 3) := by decide +kernel
theorem dX4_find_146 : decode cX4_find 146 = .ok (.bipush 20, 2) := by decide +kernel
theorem dX4_find_148 : decode cX4_find 148 = .ok (.iaload, 1) := by decide +kernel
theorem dX4_find_149 : decode cX4_find 149 = .ok (.iconst 1, 1) := by decide +kernel
theorem dX4_find_150 : decode cX4_find 150 = .ok (.if_icmp .ne 7, 3) := by decide +kernel
theorem dX4_find_153 : decode cX4_find 153 = .ok (.iconst 1, 1) := by decide +kernel
theorem dX4_find_154 : decode cX4_find 154 = .ok (.goto 4, 3) := by decide +kernel
theorem dX4_find_157 : decode cX4_find 157 = .ok (.iconst 0, 1) := by decide +kernel
theorem dX4_find_158 : decode cX4_find 158 = .ok (.istore_n 3, 1) := by decide +kernel
theorem dX4_find_159 : decode cX4_find 159 = .ok (.aload_n 0, 1) := by decide +kernel
theorem dX4_find_160 : decode cX4_find 160 = .ok (.iload_n 3, 1) := by decide +kernel
theorem dX4_find_161 : decode cX4_find 161 = .ok (.ifCond .eq 7, 3) := by decide +kernel
theorem dX4_find_164 : decode cX4_find 164 = .ok (.iconst 2, 1) := by decide +kernel
theorem dX4_find_165 : decode cX4_find 165 = .ok (.goto 19, 3) := by decide +kernel
theorem dX4_find_168 : decode cX4_find 168 = .ok (.aload_n 0, 1) := by decide +kernel
theorem dX4_find_169 : decode cX4_find 169 = .ok (.getfield 50, 3) := by decide +kernel
theorem dX4_find_172 : decode cX4_find 172 = .ok (.bipush 20, 2) := by decide +kernel
theorem dX4_find_174 : decode cX4_find 174 = .ok (.iaload, 1) := by decide +kernel
theorem dX4_find_175 : decode cX4_find 175 = .ok (.iconst 2, 1) := by decide +kernel
theorem dX4_find_176 : decode cX4_find 176 = .ok (.if_icmp .ne 7, 3) := by decide +kernel
theorem dX4_find_179 : decode cX4_find 179 = .ok (.iconst 3, 1) := by decide +kernel
theorem dX4_find_180 : decode cX4_find 180 = .ok (.goto 4, 3) := by decide +kernel
theorem dX4_find_183 : decode cX4_find 183 = .ok (.iconst 4, 1) := by decide +kernel
theorem dX4_find_184 : decode cX4_find 184 = .ok (.iload_n 3, 1) := by decide +kernel
theorem dX4_find_185 : decode cX4_find 185 = .ok (.ifCond .eq 13, 3) := by decide +kernel
theorem dX4_find_188 : decode cX4_find 188 = .ok (.aload_n 0, 1) := by decide +kernel
theorem dX4_find_189 : decode cX4_find 189 = .ok (.getfield 56, 3) := by decide +kernel
theorem dX4_find_192 : decode cX4_find 192 = .ok (.bipush 20, 2) := by decide +kernel
theorem dX4_find_194 : decode cX4_find 194 = .ok (.iaload, 1) := by decide +kernel
theorem dX4_find_195 : decode cX4_find 195 = .ok (.goto 4, 3) := by decide +kernel
theorem dX4_find_198 : decode cX4_find 198 = .ok (.iload_n 2, 1) := by decide +kernel
theorem dX4_find_199 : decode cX4_find 199 = .ok (.aload_n 0, 1) := by decide +kernel
theorem dX4_find_200 : decode cX4_find 200 = .ok (.getfield 47, 3) := by decide +kernel
theorem dX4_find_203 : decode cX4_find 203 = .ok (.bipush 20, 2) := by decide +kernel
theorem dX4_find_205 : decode cX4_find 205 = .ok (.iaload, 1) := by decide +kernel
theorem dX4_find_206 : decode cX4_find 206 = .ok (.aload_n 0, 1) := by decide +kernel
theorem dX4_find_207 : decode cX4_find 207 = .ok (.getfield 56, 3) := by decide +kernel
theorem dX4_find_210 : decode cX4_find 210 = .ok (.bipush 20, 2) := by decide +kernel
theorem dX4_find_212 : decode cX4_find 212 = .ok (.iaload, 1) := by decide +kernel
theorem dX4_find_213 : decode cX4_find 213 = .ok (.invokevirtual 79, 3) := by decide +kernel
theorem dX4_find_216 : decode cX4_find 216 = .ok (.aload_n 0, 1) := by decide +kernel
theorem dX4_find_217 : decode cX4_find 217 = .ok (.getfield 50, 3) := by decide +kernel
theorem dX4_find_220 : decode cX4_find 220 = .ok (.aload_n 0, 1) := by decide +kernel
theorem dX4_find_221 : decode cX4_find 221 = .ok (.getfield 75, 3) := by decide +kernel
theorem dX4_find_224 : decode cX4_find 224 = .ok (.iconst 1, 1) := by decide +kernel
theorem dX4_find_225 : decode cX4_find 225 = .ok (.isub, 1) := by decide +kernel
theorem dX4_find_226 : decode cX4_find 226 = .ok (.aload_n 0, 1) := by decide +kernel
theorem dX4_find_227 : decode cX4_find 227 = .ok (.getfield 50, 3) := by decide +kernel
theorem dX4_find_230 : decode cX4_find 230 = .ok (.bipush 20, 2) := by decide +kernel
theorem dX4_find_232 : decode cX4_find 232 = .ok (.iaload, 1) := by decide +kernel
theorem dX4_find_233 : decode cX4_find 233 = .ok (.iastore, 1) := by decide +kernel
theorem dX4_find_234 : decode cX4_find 234 = .ok (.aload_n 0, 1) := by decide +kernel
theorem dX4_find_235 : decode cX4_find 235 = .ok (.getfield 53, 3) := by decide +kernel
theorem dX4_find_238 : decode cX4_find 238 = .ok (.aload_n 0, 1) := by decide +kernel
theorem dX4_find_239 : decode cX4_find 239 = .ok (.getfield 75, 3) := by decide +kernel
theorem dX4_find_242 : decode cX4_find 242 = .ok (.iconst 1, 1) := by decide +kernel
theorem dX4_find_243 : decode cX4_find 243 = .ok (.isub, 1) := by decide +kernel
theorem dX4_find_244 : decode cX4_find 244 = .ok (.aload_n 0, 1) := by decide +kernel
theorem dX4_find_245 : decode cX4_find 245 = .ok (.getfield 53, 3) := by decide +kernel
theorem dX4_find_248 : decode cX4_find 248 = .ok (.bipush 20, 2) := by decide +kernel
theorem dX4_find_250 : decode cX4_find 250 = .ok (.iaload, 1) := by decide +kernel
theorem dX4_find_251 : decode cX4_find 251 = .ok (.iastore, 1) := by decide +kernel
theorem dX4_find_252 : decode cX4_find 252 = .ok (.aload_n 0, 1) := by decide +kernel
theorem dX4_find_253 : decode cX4_find 253 = .ok (.getfield 59, 3) := by decide +kernel
theorem dX4_find_256 : decode cX4_find 256 = .ok (.aload_n 0, 1) := by decide +kernel
theorem dX4_find_257 : decode cX4_find 257 = .ok (.getfield 75, 3) := by decide +kernel
theorem dX4_find_260 : decode cX4_find 260 = .ok (.iconst 1, 1) := by decide +kernel
theorem dX4_find_261 : decode cX4_find 261 = .ok (.isub, 1) := by decide +kernel
theorem dX4_find_262 : decode cX4_find 262 = .ok (.aload_n 0, 1) := by decide +kernel
theorem dX4_find_263 : decode cX4_find 263 = .ok (.getfield 59, 3) := by decide +kernel
theorem dX4_find_266 : decode cX4_find 266 = .ok (.bipush 20, 2) := by decide +kernel
theorem dX4_find_268 : decode cX4_find 268 = .ok (.iaload, 1) := by decide +kernel
theorem dX4_find_269 : decode cX4_find 269 = .ok (.iastore, 1) := by decide +kernel
theorem dX4_find_270 : decode cX4_find 270 = .ok (.aload_n 0, 1) := by decide +kernel
theorem dX4_find_271 : decode cX4_find 271 = .ok (.getfield 62, 3) := by decide +kernel
theorem dX4_find_274 : decode cX4_find 274 = .ok (.aload_n 0, 1) := by decide +kernel
theorem dX4_find_275 : decode cX4_find 275 = .ok (.getfield 75, 3) := by decide +kernel
theorem dX4_find_278 : decode cX4_find 278 = .ok (.iconst 1, 1) := by decide +kernel
theorem dX4_find_279 : decode cX4_find 279 = .ok (.isub, 1) := by decide +kernel
theorem dX4_find_280 : decode cX4_find 280 = .ok (.iload_n 3, 1) := by decide +kernel
theorem dX4_find_281 : decode cX4_find 281 = .ok (.ifCond .eq 8, 3) := by decide +kernel
theorem dX4_find_284 : decode cX4_find 284 = .ok (.iload_n 2, 1) := by decide +kernel
theorem dX4_find_285 : decode cX4_find 285 = .ok (.i2l, 1) := by decide +kernel
theorem dX4_find_286 : decode cX4_find 286 = .ok (.goto 10, 3) := by decide +kernel
theorem dX4_find_289 : decode cX4_find 289 = .ok (.aload_n 0, 1) := by decide +kernel
theorem dX4_find_290 : decode cX4_find 290 = .ok (.getfield 62, 3) := by decide +kernel
theorem dX4_find_293 : decode cX4_find 293 = .ok (.bipush 20, 2) := by decide +kernel
theorem dX4_find_295 : decode cX4_find 295 = .ok (.laload, 1) := by decide +kernel
theorem dX4_find_296 : decode cX4_find 296 = .ok (.lastore, 1) := by decide +kernel
theorem dX4_find_297 : decode cX4_find 297 = .ok (.return_, 1) := by decide +kernel
theorem dX4_found_0 : decode cX4_found 0 = .ok (.aload_n 0, 1) := by decide +kernel
theorem dX4_found_1 : decode cX4_found 1 = .ok (.getfield 62, 3) := by decide +kernel
theorem dX4_found_4 : decode cX4_found 4 = .ok (.bipush 20, 2) := by decide +kernel
theorem dX4_found_6 : decode cX4_found 6 = .ok (.laload, 1) := by decide +kernel
theorem dX4_found_7 : decode cX4_found 7 = .ok (.l2i, 1) := by decide +kernel
theorem dX4_found_8 : decode cX4_found 8 = .ok (.istore_n 2, 1) := by decide +kernel
theorem dX4_found_9 : decode cX4_found 9 = .ok (.aload_n 0, 1) := by decide +kernel
theorem dX4_found_10 : decode cX4_found 10 = .ok (.getfield 50, 3) := by decide +kernel
theorem dX4_found_13 : decode cX4_found 13 = .ok (.bipush 20, 2) := by decide +kernel
theorem dX4_found_15 : decode cX4_found 15 = .ok (.iaload, 1) := by decide +kernel
theorem dX4_found_16 : decode cX4_found 16 = .ok (.ifCond .ne 20, 3) := by decide +kernel
theorem dX4_found_19 : decode cX4_found 19 = .ok (.aload_n 0, 1) := by decide +kernel
theorem dX4_found_20 : decode cX4_found 20 = .ok (.getfield 7, 3) := by decide +kernel
theorem dX4_found_23 : decode cX4_found 23 = .ok (.iload_n 1, 1) := by decide +kernel
theorem dX4_found_24 : decode cX4_found 24 = .ok (.iconst 2, 1) := by decide +kernel
theorem dX4_found_25 : decode cX4_found 25 = .ok (.iastore, 1) := by decide +kernel
theorem dX4_found_26 : decode cX4_found 26 = .ok (.aload_n 0, 1) := by decide +kernel
theorem dX4_found_27 : decode cX4_found 27 = .ok (.getfield 13, 3) := by decide +kernel
theorem dX4_found_30 : decode cX4_found 30 = .ok (.iload_n 1, 1) := by decide +kernel
theorem dX4_found_31 : decode cX4_found 31 = .ok (.iload_n 2, 1) := by decide +kernel
theorem dX4_found_32 : decode cX4_found 32 = .ok (.iastore, 1) := by decide +kernel
theorem dX4_found_33 : decode cX4_found 33 = .ok (.goto 21, 3) := by decide +kernel
theorem dX4_found_36 : decode cX4_found 36 = .ok (.aload_n 0, 1) := by decide +kernel
theorem dX4_found_37 : decode cX4_found 37 = .ok (.getfield 19, 3) := by decide +kernel
theorem dX4_found_40 : decode cX4_found 40 = .ok (.bipush 8, 2) := by decide +kernel
theorem dX4_found_42 : decode cX4_found 42 = .ok (.iload_n 1, 1) := by decide +kernel
theorem dX4_found_43 : decode cX4_found 43 = .ok (.imul, 1) := by decide +kernel
theorem dX4_found_44 : decode cX4_found 44 = .ok (.aload_n 0, 1) := by decide +kernel
theorem dX4_found_45 : decode cX4_found 45 = .ok (.getfield 53, 3) := by decide +kernel
theorem dX4_found_48 : decode cX4_found 48 = .ok (.bipush 20, 2) := by decide +kernel
theorem dX4_found_50 : decode cX4_found 50 = .ok (.iaload, 1) := by decide +kernel
theorem dX4_found_51 : decode cX4_found 51 = .ok (.iadd, 1) := by decide +kernel
theorem dX4_found_52 : decode cX4_found 52 = .ok (.iload_n 2, 1) := by decide +kernel
theorem dX4_found_53 : decode cX4_found 53 = .ok (.iastore, 1) := by decide +kernel
theorem dX4_found_54 : decode cX4_found 54 = .ok (.aload_n 0, 1) := by decide +kernel
theorem dX4_found_55 : decode cX4_found 55 = .ok (.getfield 26, 3) := by decide +kernel
theorem dX4_found_58 : decode cX4_found 58 = .ok (.iload_n 1, 1) := by decide +kernel
theorem dX4_found_59 : decode cX4_found 59 = .ok (.aload_n 0, 1) := by decide +kernel
theorem dX4_found_60 : decode cX4_found 60 = .ok (.getfield 59, 3) := by decide +kernel
theorem dX4_found_63 : decode cX4_found 63 = .ok (.bipush 20, 2) := by decide +kernel
theorem dX4_found_65 : decode cX4_found 65 = .ok (.iaload, 1) := by decide +kernel
theorem dX4_found_66 : decode cX4_found 66 = .ok (.iastore, 1) := by decide +kernel
theorem dX4_found_67 : decode cX4_found 67 = .ok (.return_, 1) := by decide +kernel
theorem dX4_fetch_0 : decode cX4_fetch 0 = .ok (.aload_n 0, 1) := by decide +kernel
theorem dX4_fetch_1 : decode cX4_fetch 1 = .ok (.iload_n 1, 1) := by decide +kernel
theorem dX4_fetch_2 : decode cX4_fetch 2 = .ok (.aload_n 0, 1) := by decide +kernel
theorem dX4_fetch_3 : decode cX4_fetch 3 = .ok (.getfield 47, 3) := by decide +kernel
theorem dX4_fetch_6 : decode cX4_fetch 6 = .ok (.bipush 20, 2) := by decide +kernel
theorem dX4_fetch_8 : decode cX4_fetch 8 = .ok (.iaload, 1) := by decide +kernel
theorem dX4_fetch_9 : decode cX4_fetch 9 = .ok (.invokevirtual 99, 3) := by decide +kernel
theorem dX4_fetch_12 : decode cX4_fetch 12 = .ok (.istore_n 2, 1) := by decide +kernel
theorem dX4_fetch_13 : decode cX4_fetch 13 = .ok (.aload_n 0, 1) := by decide +kernel
theorem dX4_fetch_14 : decode cX4_fetch 14 = .ok (.iconst 5, 1) := by decide +kernel
theorem dX4_fetch_15 : decode cX4_fetch 15 = .ok (.aload_n 0, 1) := by decide +kernel
theorem dX4_fetch_16 : decode cX4_fetch 16 = .ok (.getfield 56, 3) := by decide +kernel
theorem dX4_fetch_19 : decode cX4_fetch 19 = .ok (.bipush 20, 2) := by decide +kernel
theorem dX4_fetch_21 : decode cX4_fetch 21 = .ok (.iaload, 1) := by decide +kernel
theorem dX4_fetch_22 : decode cX4_fetch 22 = .ok (.iconst 0, 1) := by decide +kernel
theorem dX4_fetch_23 : decode cX4_fetch 23 = .ok (.iconst 0, 1) := by decide +kernel
theorem dX4_fetch_24 : decode cX4_fetch 24 = .ok (.invokevirtual 79, 3) := by decide +kernel
theorem dX4_fetch_27 : decode cX4_fetch 27 = .ok (.aload_n 0, 1) := by decide +kernel
theorem dX4_fetch_28 : decode cX4_fetch 28 = .ok (.getfield 62, 3) := by decide +kernel
theorem dX4_fetch_31 : decode cX4_fetch 31 = .ok (.aload_n 0, 1) := by decide +kernel
theorem dX4_fetch_32 : decode cX4_fetch 32 = .ok (.getfield 75, 3) := by decide +kernel
theorem dX4_fetch_35 : decode cX4_fetch 35 = .ok (.iconst 1, 1) := by decide +kernel
theorem dX4_fetch_36 : decode cX4_fetch 36 = .ok (.isub, 1) := by decide +kernel
theorem dX4_fetch_37 : decode cX4_fetch 37 = .ok (.iload_n 2, 1) := by decide +kernel
theorem dX4_fetch_38 : decode cX4_fetch 38 = .ok (.ifCond .ge 9, 3) := by decide +kernel
theorem dX4_fetch_41 : decode cX4_fetch 41 = .ok (.ldc2_w 133, 3) := by decide +kernel
theorem dX4_fetch_44 : decode cX4_fetch 44 = .ok (.goto 10, 3) := by decide +kernel
theorem dX4_fetch_47 : decode cX4_fetch 47 = .ok (.aload_n 0, 1) := by decide +kernel
theorem dX4_fetch_48 : decode cX4_fetch 48 = .ok (.getfield 35, 3) := by decide +kernel
theorem dX4_fetch_51 : decode cX4_fetch 51 = .ok (.iload_n 2, 1) := by decide +kernel
theorem dX4_fetch_52 : decode cX4_fetch 52 = .ok (.iaload, 1) := by decide +kernel
theorem dX4_fetch_53 : decode cX4_fetch 53 = .ok (.i2l, 1) := by decide +kernel
theorem dX4_fetch_54 : decode cX4_fetch 54 = .ok (.lastore, 1) := by decide +kernel
theorem dX4_fetch_55 : decode cX4_fetch 55 = .ok (.aload_n 0, 1) := by decide +kernel
theorem dX4_fetch_56 : decode cX4_fetch 56 = .ok (.getfield 59, 3) := by decide +kernel
theorem dX4_fetch_59 : decode cX4_fetch 59 = .ok (.aload_n 0, 1) := by decide +kernel
theorem dX4_fetch_60 : decode cX4_fetch 60 = .ok (.getfield 75, 3) := by decide +kernel
theorem dX4_fetch_63 : decode cX4_fetch 63 = .ok (.iconst 1, 1) := by decide +kernel
theorem dX4_fetch_64 : decode cX4_fetch 64 = .ok (.isub, 1) := by decide +kernel
theorem dX4_fetch_65 : decode cX4_fetch 65 = .ok (.aload_n 0, 1) := by decide +kernel
theorem dX4_fetch_66 : decode cX4_fetch 66 = .ok (.getfield 59, 3) := by decide +kernel
theorem dX4_fetch_69 : decode cX4_fetch 69 = .ok (.bipush 20, 2) := by decide +kernel
theorem dX4_fetch_71 : decode cX4_fetch 71 = .ok (.iaload, 1) := by decide +kernel
theorem dX4_fetch_72 : decode cX4_fetch 72 = .ok (.iastore, 1) := by decide +kernel
theorem dX4_fetch_73 : decode cX4_fetch 73 = .ok (.return_, 1) := by decide +kernel
theorem dX4_tell_0 : decode cX4_tell 0 = .ok (.aload_n 0, 1) := by decide +kernel
theorem dX4_tell_1 : decode cX4_tell 1 = .ok (.getfield 62, 3) := by decide +kernel
theorem dX4_tell_4 : decode cX4_tell 4 = .ok (.bipush 20, 2) := by decide +kernel
theorem dX4_tell_6 : decode cX4_tell 6 = .ok (.laload, 1) := by decide +kernel
theorem dX4_tell_7 : decode cX4_tell 7 = .ok (.l2i, 1) := by decide +kernel
theorem dX4_tell_8 : decode cX4_tell 8 = .ok (.istore_n 2, 1) := by decide +kernel
theorem dX4_tell_9 : decode cX4_tell 9 = .ok (.iload_n 2, 1) := by decide +kernel
theorem dX4_tell_10 : decode cX4_tell 10 = .ok (.iconst (-1), 1) := by decide +kernel
theorem dX4_tell_11 : decode cX4_tell 11 = .ok (.if_icmp .eq 24, 3) := by decide +kernel
theorem dX4_tell_14 : decode cX4_tell 14 = .ok (.iload_n 2, 1) := by decide +kernel
theorem dX4_tell_15 : decode cX4_tell 15 = .ok (.iload_n 1, 1) := by decide +kernel
theorem dX4_tell_16 : decode cX4_tell 16 = .ok (.aload_n 0, 1) := by decide +kernel
theorem dX4_tell_17 : decode cX4_tell 17 = .ok (.getfield 13, 3) := by decide +kernel
theorem dX4_tell_20 : decode cX4_tell 20 = .ok (.iload_n 1, 1) := by decide +kernel
theorem dX4_tell_21 : decode cX4_tell 21 = .ok (.iaload, 1) := by decide +kernel
theorem dX4_tell_22 : decode cX4_tell 22 = .ok (.invokestatic 130, 3) := by decide +kernel
theorem dX4_tell_25 : decode cX4_tell 25 = .ok (.ifCond .eq 10, 3) := by decide +kernel
theorem dX4_tell_28 : decode cX4_tell 28 = .ok (.aload_n 0, 1) := by decide +kernel
theorem dX4_tell_29 : decode cX4_tell 29 = .ok (.getfield 13, 3) := by decide +kernel
theorem dX4_tell_32 : decode cX4_tell 32 = .ok (.iload_n 1, 1) := by decide +kernel
theorem dX4_tell_33 : decode cX4_tell 33 = .ok (.iload_n 2, 1) := by decide +kernel
theorem dX4_tell_34 : decode cX4_tell 34 = .ok (.iastore, 1) := by decide +kernel
theorem dX4_tell_35 : decode cX4_tell 35 = .ok (.aload_n 0, 1) := by decide +kernel
theorem dX4_tell_36 : decode cX4_tell 36 = .ok (.bipush 8, 2) := by decide +kernel
theorem dX4_tell_38 : decode cX4_tell 38 = .ok (.aload_n 0, 1) := by decide +kernel
theorem dX4_tell_39 : decode cX4_tell 39 = .ok (.getfield 13, 3) := by decide +kernel
theorem dX4_tell_42 : decode cX4_tell 42 = .ok (.iload_n 1, 1) := by decide +kernel
theorem dX4_tell_43 : decode cX4_tell 43 = .ok (.iaload, 1) := by decide +kernel
theorem dX4_tell_44 : decode cX4_tell 44 = .ok (.iconst 0, 1) := by decide +kernel
theorem dX4_tell_45 : decode cX4_tell 45 = .ok (.iload_n 1, 1) := by decide +kernel
theorem dX4_tell_46 : decode cX4_tell 46 = .ok (.invokevirtual 79, 3) := by decide +kernel
theorem dX4_tell_49 : decode cX4_tell 49 = .ok (.return_, 1) := by decide +kernel
theorem dX4_notified_0 : decode cX4_notified 0 = .ok (.aload_n 0, 1) := by decide +kernel
theorem dX4_notified_1 : decode cX4_notified 1 = .ok (.getfield 56, 3) := by decide +kernel
theorem dX4_notified_4 : decode cX4_notified 4 = .ok (.bipush 20, 2) := by decide +kernel
theorem dX4_notified_6 : decode cX4_notified 6 = .ok (.iaload, 1) := by decide +kernel
theorem dX4_notified_7 : decode cX4_notified 7 = .ok (.istore_n 2, 1) := by decide +kernel
theorem dX4_notified_8 : decode cX4_notified 8 = .ok (.aload_n 0, 1) := by decide +kernel
theorem dX4_notified_9 : decode cX4_notified 9 = .ok (.getfield 16, 3) := by decide +kernel
theorem dX4_notified_12 : decode cX4_notified 12 = .ok (.iload_n 1, 1) := by decide +kernel
theorem dX4_notified_13 : decode cX4_notified 13 = .ok (.iaload, 1) := by decide +kernel
theorem dX4_notified_14 : decode cX4_notified 14 = .ok (.iconst (-1), 1) := by decide +kernel
theorem dX4_notified_15 : decode cX4_notified 15 = .ok (.if_icmp .eq 17, 3) := by decide +kernel
theorem dX4_notified_18 : decode cX4_notified 18 = .ok (.iload_n 2, 1) := by decide +kernel
theorem dX4_notified_19 : decode cX4_notified 19 = .ok (.aload_n 0, 1) := by decide +kernel
theorem dX4_notified_20 : decode cX4_notified 20 = .ok (.getfield 16, 3) := by decide +kernel
theorem dX4_notified_23 : decode cX4_notified 23 = .ok (.iload_n 1, 1) := by decide +kernel
theorem dX4_notified_24 : decode cX4_notified 24 = .ok (.iaload, 1) := by decide +kernel
theorem dX4_notified_25 : decode cX4_notified 25 = .ok (.iload_n 1, 1) := by decide +kernel
theorem dX4_notified_26 : decode cX4_notified 26 = .ok (.invokestatic 130, 3) := by decide +kernel
theorem dX4_notified_29 : decode cX4_notified 29 = .ok (.ifCond .eq 16, 3) := by decide +kernel
theorem dX4_notified_32 : decode cX4_notified 32 = .ok (.aload_n 0, 1) := by decide +kernel
theorem dX4_notified_33 : decode cX4_notified 33 = .ok (.getfield 16, 3) := by decide +kernel
theorem dX4_notified_36 : decode cX4_notified 36 = .ok (.iload_n 1, 1) := by decide +kernel
theorem dX4_notified_37 : decode cX4_notified 37 = .ok (.iload_n 2, 1) := by decide +kernel
theorem dX4_notified_38 : decode cX4_notified 38 = .ok (.iastore, 1) := by decide +kernel
theorem dX4_notified_39 : decode cX4_notified 39 = .ok (.aload_n 0, 1) := by decide +kernel
theorem dX4_notified_40 : decode cX4_notified 40 = .ok (.iload_n 1, 1) := by decide +kernel
theorem dX4_notified_41 : decode cX4_notified 41 = .ok (.iload_n 2, 1) := by decide +kernel
theorem dX4_notified_42 : decode cX4_notified 42 = .ok (.invokevirtual 135, 3) := by decide +kernel
theorem dX4_notified_45 : decode cX4_notified 45 = .ok (.return_, 1) := by decide +kernel
theorem dX4_deliver_0 : decode cX4_deliver 0 = .ok (.iload_n 1, 1) := by decide +kernel
theorem dX4_deliver_1 : decode cX4_deliver 1 = .ok (.ifCond .lt 11, 3) := by decide +kernel
theorem dX4_deliver_4 : decode cX4_deliver 4 = .ok (.iload_n 1, 1) := by decide +kernel
theorem dX4_deliver_5 : decode cX4_deliver 5 = .ok (.aload_n 0, 1) := by decide +kernel
theorem dX4_deliver_6 : decode cX4_deliver 6 = .ok (.getfield 75, 3) := by decide +kernel
theorem dX4_deliver_9 : decode cX4_deliver 9 = .ok (.if_icmp .lt 5, 3) := by decide +kernel
theorem dX4_deliver_12 : decode cX4_deliver 12 = .ok (.iconst (-1), 1) := by decide +kernel
theorem dX4_deliver_13 : decode cX4_deliver 13 = .ok (.ireturn, 1) := by decide +kernel
theorem dX4_deliver_14 : decode cX4_deliver 14 = .ok (.aload_n 0, 1) := by decide +kernel
theorem dX4_deliver_15 : decode cX4_deliver 15 = .ok (.getfield 41, 3) := by decide +kernel
theorem dX4_deliver_18 : decode cX4_deliver 18 = .ok (.iload_n 1, 1) := by decide +kernel
theorem dX4_deliver_19 : decode cX4_deliver 19 = .ok (.iaload, 1) := by decide +kernel
theorem dX4_deliver_20 : decode cX4_deliver 20 = .ok (.istore_n 2, 1) := by decide +kernel
theorem dX4_deliver_21 : decode cX4_deliver 21 = .ok (.aload_n 0, 1) := by decide +kernel
theorem dX4_deliver_22 : decode cX4_deliver 22 = .ok (.iload_n 1, 1) := by decide +kernel
theorem dX4_deliver_23 : decode cX4_deliver 23 = .ok (.invokevirtual 138, 3) := by decide +kernel
theorem dX4_deliver_26 : decode cX4_deliver 26 = .ok (.iload_n 2, 1) := by decide +kernel
theorem dX4_deliver_27 : decode cX4_deliver 27 = .ok (.ireturn, 1) := by decide +kernel
theorem dX4_pump_0 : decode cX4_pump 0 = .ok (.iload_n 1, 1) := by decide +kernel
theorem dX4_pump_1 : decode cX4_pump 1 = .ok (.iconst 1, 1) := by decide +kernel
theorem dX4_pump_2 : decode cX4_pump 2 = .ok (.if_icmp .lt 9, 3) := by decide +kernel
theorem dX4_pump_5 : decode cX4_pump 5 = .ok (.iload_n 1, 1) := by decide +kernel
theorem dX4_pump_6 : decode cX4_pump 6 = .ok (.bipush 8, 2) := by decide +kernel
theorem dX4_pump_8 : decode cX4_pump 8 = .ok (.if_icmp .le 5, 3) := by decide +kernel
theorem dX4_pump_11 : decode cX4_pump 11 = .ok (.iconst (-1), 1) := by decide +kernel
theorem dX4_pump_12 : decode cX4_pump 12 = .ok (.ireturn, 1) := by decide +kernel
theorem dX4_pump_13 : decode cX4_pump 13 = .ok (.iconst 0, 1) := by decide +kernel
theorem dX4_pump_14 : decode cX4_pump 14 = .ok (.istore_n 2, 1) := by decide +kernel
theorem dX4_pump_15 : decode cX4_pump 15 = .ok (.iload_n 2, 1) := by decide +kernel
theorem dX4_pump_16 : decode cX4_pump 16 = .ok (.iload_n 1, 1) := by decide +kernel
theorem dX4_pump_17 : decode cX4_pump 17 = .ok (.if_icmp .ge 21, 3) := by decide +kernel
theorem dX4_pump_20 : decode cX4_pump 20 = .ok (.aload_n 0, 1) := by decide +kernel
theorem dX4_pump_21 : decode cX4_pump 21 = .ok (.getfield 75, 3) := by decide +kernel
theorem dX4_pump_24 : decode cX4_pump 24 = .ok (.ifCond .le 14, 3) := by decide +kernel
theorem dX4_pump_27 : decode cX4_pump 27 = .ok (.aload_n 0, 1) := by decide +kernel
theorem dX4_pump_28 : decode cX4_pump 28 = .ok (.iconst 0, 1) := by decide +kernel
theorem dX4_pump_29 : decode cX4_pump 29 = .ok (.invokevirtual 138, 3) := by decide +kernel
theorem dX4_pump_32 : decode cX4_pump 32 = .ok (.iinc 2 1, 3) := by decide +kernel
theorem dX4_pump_35 : decode cX4_pump 35 = .ok (.goto (-20), 3) := by decide +kernel
theorem dX4_pump_38 : decode cX4_pump 38 = .ok (.iload_n 2, 1) := by decide +kernel
theorem dX4_pump_39 : decode cX4_pump 39 = .ok (.ireturn, 1) := by decide +kernel
theorem dX4_flying_0 : decode cX4_flying 0 = .ok (.aload_n 0, 1) := by decide +kernel
theorem dX4_flying_1 : decode cX4_flying 1 = .ok (.getfield 75, 3) := by decide +kernel
theorem dX4_flying_4 : decode cX4_flying 4 = .ok (.ireturn, 1) := by decide +kernel
theorem dX4_message_0 : decode cX4_message 0 = .ok (.iload_n 1, 1) := by decide +kernel
theorem dX4_message_1 : decode cX4_message 1 = .ok (.ifCond .lt 11, 3) := by decide +kernel
theorem dX4_message_4 : decode cX4_message 4 = .ok (.iload_n 1, 1) := by decide +kernel
theorem dX4_message_5 : decode cX4_message 5 = .ok (.aload_n 0, 1) := by decide +kernel
theorem dX4_message_6 : decode cX4_message 6 = .ok (.getfield 75, 3) := by decide +kernel
theorem dX4_message_9 : decode cX4_message 9 = .ok (.if_icmp .lt 7, 3) := by decide +kernel
theorem dX4_message_12 : decode cX4_message 12 = .ok (.iconst (-1), 1) := by decide +kernel
theorem dX4_message_13 : decode cX4_message 13 = .ok (.goto 20, 3) := by decide +kernel
theorem dX4_message_16 : decode cX4_message 16 = .ok (.aload_n 0, 1) := by decide +kernel
theorem dX4_message_17 : decode cX4_message 17 = .ok (.getfield 41, 3) := by decide +kernel
theorem dX4_message_20 : decode cX4_message 20 = .ok (.iload_n 1, 1) := by decide +kernel
theorem dX4_message_21 : decode cX4_message 21 = .ok (.iaload, 1) := by decide +kernel
theorem dX4_message_22 : decode cX4_message 22 = .ok (.sipush 256, 3) := by decide +kernel
theorem dX4_message_25 : decode cX4_message 25 = .ok (.imul, 1) := by decide +kernel
theorem dX4_message_26 : decode cX4_message 26 = .ok (.aload_n 0, 1) := by decide +kernel
theorem dX4_message_27 : decode cX4_message 27 = .ok (.getfield 44, 3) := by decide +kernel
theorem dX4_message_30 : decode cX4_message 30 = .ok (.iload_n 1, 1) := by decide +kernel
theorem dX4_message_31 : decode cX4_message 31 = .ok (.iaload, 1) := by decide +kernel
theorem dX4_message_32 : decode cX4_message 32 = .ok (.iadd, 1) := by decide +kernel
theorem dX4_message_33 : decode cX4_message 33 = .ok (.ireturn, 1) := by decide +kernel
theorem dX4_successor_0 : decode cX4_successor 0 = .ok (.aload_n 0, 1) := by decide +kernel
theorem dX4_successor_1 : decode cX4_successor 1 = .ok (.iload_n 1, 1) := by decide +kernel
theorem dX4_successor_2 : decode cX4_successor 2 = .ok (.invokevirtual 86, 3) := by decide +kernel
theorem dX4_successor_5 : decode cX4_successor 5 = .ok (.ifCond .eq 12, 3) := by decide +kernel
theorem dX4_successor_8 : decode cX4_successor 8 = .ok (.aload_n 0, 1) := by decide +kernel
theorem dX4_successor_9 : decode cX4_successor 9 = .ok (.getfield 13, 3) := by decide +kernel
theorem dX4_successor_12 : decode cX4_successor 12 = .ok (.iload_n 1, 1) := by decide +kernel
theorem dX4_successor_13 : decode cX4_successor 13 = .ok (.iaload, 1) := by decide +kernel
theorem dX4_successor_14 : decode cX4_successor 14 = .ok (.goto 4, 3) := by decide +kernel
theorem dX4_successor_17 : decode cX4_successor 17 = .ok (.iconst (-1), 1) := by decide +kernel
theorem dX4_successor_18 : decode cX4_successor 18 = .ok (.ireturn, 1) := by decide +kernel
theorem dX4_predecessor_0 : decode cX4_predecessor 0 = .ok (.aload_n 0, 1) := by decide +kernel
theorem dX4_predecessor_1 : decode cX4_predecessor 1 = .ok (.iload_n 1, 1) := by decide +kernel
theorem dX4_predecessor_2 : decode cX4_predecessor 2 = .ok (.invokevirtual 86, 3) := by decide +kernel
theorem dX4_predecessor_5 : decode cX4_predecessor 5 = .ok (.ifCond .eq 12, 3) := by decide +kernel
theorem dX4_predecessor_8 : decode cX4_predecessor 8 = .ok (.aload_n 0, 1) := by decide +kernel
theorem dX4_predecessor_9 : decode cX4_predecessor 9 = .ok (.getfield 16, 3) := by decide +kernel
theorem dX4_predecessor_12 : decode cX4_predecessor 12 = .ok (.iload_n 1, 1) := by decide +kernel
theorem dX4_predecessor_13 : decode cX4_predecessor 13 = .ok (.iaload, 1) := by decide +kernel
theorem dX4_predecessor_14 : decode cX4_predecessor 14 = .ok (.goto 4, 3) := by decide +kernel
theorem dX4_predecessor_17 : decode cX4_predecessor 17 = .ok (.iconst (-1), 1) := by decide +kernel
theorem dX4_predecessor_18 : decode cX4_predecessor 18 = .ok (.ireturn, 1) := by decide +kernel
theorem dX4_finger_0 : decode cX4_finger 0 = .ok (.aload_n 0, 1) := by decide +kernel
theorem dX4_finger_1 : decode cX4_finger 1 = .ok (.iload_n 1, 1) := by decide +kernel
theorem dX4_finger_2 : decode cX4_finger 2 = .ok (.invokevirtual 86, 3) := by decide +kernel
theorem dX4_finger_5 : decode cX4_finger 5 = .ok (.ifCond .eq 27, 3) := by decide +kernel
theorem dX4_finger_8 : decode cX4_finger 8 = .ok (.iload_n 2, 1) := by decide +kernel
theorem dX4_finger_9 : decode cX4_finger 9 = .ok (.ifCond .lt 23, 3) := by decide +kernel
theorem dX4_finger_12 : decode cX4_finger 12 = .ok (.iload_n 2, 1) := by decide +kernel
theorem dX4_finger_13 : decode cX4_finger 13 = .ok (.bipush 7, 2) := by decide +kernel
theorem dX4_finger_15 : decode cX4_finger 15 = .ok (.if_icmp .gt 17, 3) := by decide +kernel
theorem dX4_finger_18 : decode cX4_finger 18 = .ok (.aload_n 0, 1) := by decide +kernel
theorem dX4_finger_19 : decode cX4_finger 19 = .ok (.getfield 19, 3) := by decide +kernel
theorem dX4_finger_22 : decode cX4_finger 22 = .ok (.bipush 8, 2) := by decide +kernel
theorem dX4_finger_24 : decode cX4_finger 24 = .ok (.iload_n 1, 1) := by decide +kernel
theorem dX4_finger_25 : decode cX4_finger 25 = .ok (.imul, 1) := by decide +kernel
theorem dX4_finger_26 : decode cX4_finger 26 = .ok (.iload_n 2, 1) := by decide +kernel
theorem dX4_finger_27 : decode cX4_finger 27 = .ok (.iadd, 1) := by decide +kernel
theorem dX4_finger_28 : decode cX4_finger 28 = .ok (.iaload, 1) := by decide +kernel
theorem dX4_finger_29 : decode cX4_finger 29 = .ok (.goto 4, 3) := by decide +kernel
theorem dX4_finger_32 : decode cX4_finger 32 = .ok (.iconst (-1), 1) := by decide +kernel
theorem dX4_finger_33 : decode cX4_finger 33 = .ok (.ireturn, 1) := by decide +kernel
theorem dX4_entry_0 : decode cX4_entry 0 = .ok (.aload_n 0, 1) := by decide +kernel
theorem dX4_entry_1 : decode cX4_entry 1 = .ok (.iload_n 1, 1) := by decide +kernel
theorem dX4_entry_2 : decode cX4_entry 2 = .ok (.invokevirtual 86, 3) := by decide +kernel
theorem dX4_entry_5 : decode cX4_entry 5 = .ok (.ifCond .eq 12, 3) := by decide +kernel
theorem dX4_entry_8 : decode cX4_entry 8 = .ok (.aload_n 0, 1) := by decide +kernel
theorem dX4_entry_9 : decode cX4_entry 9 = .ok (.iload_n 1, 1) := by decide +kernel
theorem dX4_entry_10 : decode cX4_entry 10 = .ok (.iload_n 2, 1) := by decide +kernel
theorem dX4_entry_11 : decode cX4_entry 11 = .ok (.invokevirtual 99, 3) := by decide +kernel
theorem dX4_entry_14 : decode cX4_entry 14 = .ok (.goto 4, 3) := by decide +kernel
theorem dX4_entry_17 : decode cX4_entry 17 = .ok (.iconst (-1), 1) := by decide +kernel
theorem dX4_entry_18 : decode cX4_entry 18 = .ok (.istore_n 3, 1) := by decide +kernel
theorem dX4_entry_19 : decode cX4_entry 19 = .ok (.iload_n 3, 1) := by decide +kernel
theorem dX4_entry_20 : decode cX4_entry 20 = .ok (.ifCond .ge 9, 3) := by decide +kernel
theorem dX4_entry_23 : decode cX4_entry 23 = .ok (.ldc2_w 133, 3) := by decide +kernel
theorem dX4_entry_26 : decode cX4_entry 26 = .ok (.goto 10, 3) := by decide +kernel
theorem dX4_entry_29 : decode cX4_entry 29 = .ok (.aload_n 0, 1) := by decide +kernel
theorem dX4_entry_30 : decode cX4_entry 30 = .ok (.getfield 35, 3) := by decide +kernel
theorem dX4_entry_33 : decode cX4_entry 33 = .ok (.iload_n 3, 1) := by decide +kernel
theorem dX4_entry_34 : decode cX4_entry 34 = .ok (.iaload, 1) := by decide +kernel
theorem dX4_entry_35 : decode cX4_entry 35 = .ok (.i2l, 1) := by decide +kernel
theorem dX4_entry_36 : decode cX4_entry 36 = .ok (.lreturn, 1) := by decide +kernel
theorem dX4_entries_0 : decode cX4_entries 0 = .ok (.aload_n 0, 1) := by decide +kernel
theorem dX4_entries_1 : decode cX4_entries 1 = .ok (.iload_n 1, 1) := by decide +kernel
theorem dX4_entries_2 : decode cX4_entries 2 = .ok (.invokevirtual 86, 3) := by decide +kernel
theorem dX4_entries_5 : decode cX4_entries 5 = .ok (.ifCond .ne 5, 3) := by decide +kernel
theorem dX4_entries_8 : decode cX4_entries 8 = .ok (.iconst (-1), 1) := by decide +kernel
theorem dX4_entries_9 : decode cX4_entries 9 = .ok (.ireturn, 1) := by decide +kernel
theorem dX4_entries_10 : decode cX4_entries 10 = .ok (.iconst 0, 1) := by decide +kernel
theorem dX4_entries_11 : decode cX4_entries 11 = .ok (.istore_n 2, 1) := by decide +kernel
theorem dX4_entries_12 : decode cX4_entries 12 = .ok (.iconst 0, 1) := by decide +kernel
theorem dX4_entries_13 : decode cX4_entries 13 = .ok (.istore_n 3, 1) := by decide +kernel
theorem dX4_entries_14 : decode cX4_entries 14 = .ok (.iload_n 3, 1) := by decide +kernel
theorem dX4_entries_15 : decode cX4_entries 15 = .ok (.aload_n 0, 1) := by decide +kernel
theorem dX4_entries_16 : decode cX4_entries 16 = .ok (.getfield 96, 3) := by decide +kernel
theorem dX4_entries_19 : decode cX4_entries 19 = .ok (.if_icmp .ge 27, 3) := by decide +kernel
theorem dX4_entries_22 : decode cX4_entries 22 = .ok (.aload_n 0, 1) := by decide +kernel
theorem dX4_entries_23 : decode cX4_entries 23 = .ok (.getfield 29, 3) := by decide +kernel
theorem dX4_entries_26 : decode cX4_entries 26 = .ok (.iload_n 3, 1) := by decide +kernel
theorem dX4_entries_27 : decode cX4_entries 27 = .ok (.iaload, 1) := by decide +kernel
theorem dX4_entries_28 : decode cX4_entries 28 = .ok (.iload_n 1, 1) := by decide +kernel
theorem dX4_entries_29 : decode cX4_entries 29 = .ok (.if_icmp .ne 9, 3) := by decide +kernel
theorem dX4_entries_32 : decode cX4_entries 32 = .ok (.iload_n 2, 1) := by decide +kernel
theorem dX4_entries_33 : decode cX4_entries 33 = .ok (.iconst 1, 1) := by decide +kernel
theorem dX4_entries_34 : decode cX4_entries 34 = .ok (.iadd, 1) := by decide +kernel
theorem dX4_entries_35 : decode cX4_entries 35 = .ok (.goto 4, 3) := by decide +kernel
theorem dX4_entries_38 : decode cX4_entries 38 = .ok (.iload_n 2, 1) := by decide +kernel
theorem dX4_entries_39 : decode cX4_entries 39 = .ok (.istore_n 2, 1) := by decide +kernel
theorem dX4_entries_40 : decode cX4_entries 40 = .ok (.iinc 3 1, 3) := by decide +kernel
theorem dX4_entries_43 : decode cX4_entries 43 = .ok (.goto (-29), 3) := by decide +kernel
theorem dX4_entries_46 : decode cX4_entries 46 = .ok (.iload_n 2, 1) := by decide +kernel
theorem dX4_entries_47 : decode cX4_entries 47 = .ok (.ireturn, 1) := by decide +kernel
theorem dX4_answer_0 : decode cX4_answer 0 = .ok (.iload_n 1, 1) := by decide +kernel
theorem dX4_answer_1 : decode cX4_answer 1 = .ok (.invokestatic 67, 3) := by decide +kernel
theorem dX4_answer_4 : decode cX4_answer 4 = .ok (.ifCond .eq 12, 3) := by decide +kernel
theorem dX4_answer_7 : decode cX4_answer 7 = .ok (.aload_n 0, 1) := by decide +kernel
theorem dX4_answer_8 : decode cX4_answer 8 = .ok (.getfield 22, 3) := by decide +kernel
theorem dX4_answer_11 : decode cX4_answer 11 = .ok (.iload_n 1, 1) := by decide +kernel
theorem dX4_answer_12 : decode cX4_answer 12 = .ok (.laload, 1) := by decide +kernel
theorem dX4_answer_13 : decode cX4_answer 13 = .ok (.goto 6, 3) := by decide +kernel
theorem dX4_answer_16 : decode cX4_answer 16 = .ok (.ldc2_w 65, 3) := by decide +kernel
theorem dX4_answer_19 : decode cX4_answer 19 = .ok (.lreturn, 1) := by decide +kernel
theorem dX4_hops_0 : decode cX4_hops 0 = .ok (.iload_n 1, 1) := by decide +kernel
theorem dX4_hops_1 : decode cX4_hops 1 = .ok (.invokestatic 67, 3) := by decide +kernel
theorem dX4_hops_4 : decode cX4_hops 4 = .ok (.ifCond .eq 21, 3) := by decide +kernel
theorem dX4_hops_7 : decode cX4_hops 7 = .ok (.aload_n 0, 1) := by decide +kernel
theorem dX4_hops_8 : decode cX4_hops 8 = .ok (.getfield 7, 3) := by decide +kernel
theorem dX4_hops_11 : decode cX4_hops 11 = .ok (.iload_n 1, 1) := by decide +kernel
theorem dX4_hops_12 : decode cX4_hops 12 = .ok (.iaload, 1) := by decide +kernel
theorem dX4_hops_13 : decode cX4_hops 13 = .ok (.ifCond .le 12, 3) := by decide +kernel
theorem dX4_hops_16 : decode cX4_hops 16 = .ok (.aload_n 0, 1) := by decide +kernel
theorem dX4_hops_17 : decode cX4_hops 17 = .ok (.getfield 26, 3) := by decide +kernel
theorem dX4_hops_20 : decode cX4_hops 20 = .ok (.iload_n 1, 1) := by decide +kernel
theorem dX4_hops_21 : decode cX4_hops 21 = .ok (.iaload, 1) := by decide +kernel
theorem dX4_hops_22 : decode cX4_hops 22 = .ok (.goto 4, 3) := by decide +kernel
theorem dX4_hops_25 : decode cX4_hops 25 = .ok (.iconst (-1), 1) := by decide +kernel
theorem dX4_hops_26 : decode cX4_hops 26 = .ok (.ireturn, 1) := by decide +kernel
theorem dX4_owner_0 : decode cX4_owner 0 = .ok (.iload_n 1, 1) := by decide +kernel
theorem dX4_owner_1 : decode cX4_owner 1 = .ok (.invokestatic 67, 3) := by decide +kernel
theorem dX4_owner_4 : decode cX4_owner 4 = .ok (.ifCond .eq 12, 3) := by decide +kernel
theorem dX4_owner_7 : decode cX4_owner 7 = .ok (.aload_n 0, 1) := by decide +kernel
theorem dX4_owner_8 : decode cX4_owner 8 = .ok (.iload_n 1, 1) := by decide +kernel
theorem dX4_owner_9 : decode cX4_owner 9 = .ok (.iconst 1, 1) := by decide +kernel
theorem dX4_owner_10 : decode cX4_owner 10 = .ok (.invokevirtual 141, 3) := by decide +kernel
theorem dX4_owner_13 : decode cX4_owner 13 = .ok (.goto 4, 3) := by decide +kernel
theorem dX4_owner_16 : decode cX4_owner 16 = .ok (.iconst (-1), 1) := by decide +kernel
theorem dX4_owner_17 : decode cX4_owner 17 = .ok (.ireturn, 1) := by decide +kernel
theorem dX4_wrong_0 : decode cX4_wrong 0 = .ok (.iconst 0, 1) := by decide +kernel
theorem dX4_wrong_1 : decode cX4_wrong 1 = .ok (.istore_n 1, 1) := by decide +kernel
theorem dX4_wrong_2 : decode cX4_wrong 2 = .ok (.iconst 0, 1) := by decide +kernel
theorem dX4_wrong_3 : decode cX4_wrong 3 = .ok (.istore_n 2, 1) := by decide +kernel
theorem dX4_wrong_4 : decode cX4_wrong 4 = .ok (.iload_n 2, 1) := by decide +kernel
theorem dX4_wrong_5 : decode cX4_wrong 5 = .ok (.sipush 256, 3) := by decide +kernel
theorem dX4_wrong_8 : decode cX4_wrong 8 = .ok (.if_icmp .ge 117, 3) := by decide +kernel
theorem dX4_wrong_11 : decode cX4_wrong 11 = .ok (.aload_n 0, 1) := by decide +kernel
theorem dX4_wrong_12 : decode cX4_wrong 12 = .ok (.getfield 7, 3) := by decide +kernel
theorem dX4_wrong_15 : decode cX4_wrong 15 = .ok (.iload_n 2, 1) := by decide +kernel
theorem dX4_wrong_16 : decode cX4_wrong 16 = .ok (.iaload, 1) := by decide +kernel
theorem dX4_wrong_17 : decode cX4_wrong 17 = .ok (.iconst 2, 1) := by decide +kernel
theorem dX4_wrong_18 : decode cX4_wrong 18 = .ok (.if_icmp .ne 101, 3) := by decide +kernel
theorem dX4_wrong_21 : decode cX4_wrong 21 = .ok (.aload_n 0, 1) := by decide +kernel
theorem dX4_wrong_22 : decode cX4_wrong 22 = .ok (.getfield 13, 3) := by decide +kernel
theorem dX4_wrong_25 : decode cX4_wrong 25 = .ok (.iload_n 2, 1) := by decide +kernel
theorem dX4_wrong_26 : decode cX4_wrong 26 = .ok (.iaload, 1) := by decide +kernel
theorem dX4_wrong_27 : decode cX4_wrong 27 = .ok (.aload_n 0, 1) := by decide +kernel
theorem dX4_wrong_28 : decode cX4_wrong 28 = .ok (.iload_n 2, 1) := by decide +kernel
theorem dX4_wrong_29 : decode cX4_wrong 29 = .ok (.iconst 1, 1) := by decide +kernel
theorem dX4_wrong_30 : decode cX4_wrong 30 = .ok (.iadd, 1) := by decide +kernel
theorem dX4_wrong_31 : decode cX4_wrong 31 = .ok (.iconst 1, 1) := by decide +kernel
theorem dX4_wrong_32 : decode cX4_wrong 32 = .ok (.invokevirtual 141, 3) := by decide +kernel
theorem dX4_wrong_35 : decode cX4_wrong 35 = .ok (.if_icmp .eq 9, 3) := by decide +kernel
theorem dX4_wrong_38 : decode cX4_wrong 38 = .ok (.iload_n 1, 1) := by decide +kernel
theorem dX4_wrong_39 : decode cX4_wrong 39 = .ok (.iconst 1, 1) := by decide +kernel
theorem dX4_wrong_40 : decode cX4_wrong 40 = .ok (.iadd, 1) := by decide +kernel
theorem dX4_wrong_41 : decode cX4_wrong 41 = .ok (.goto 4, 3) := by decide +kernel
theorem dX4_wrong_44 : decode cX4_wrong 44 = .ok (.iload_n 1, 1) := by decide +kernel
theorem dX4_wrong_45 : decode cX4_wrong 45 = .ok (.istore_n 1, 1) := by decide +kernel
theorem dX4_wrong_46 : decode cX4_wrong 46 = .ok (.aload_n 0, 1) := by decide +kernel
theorem dX4_wrong_47 : decode cX4_wrong 47 = .ok (.getfield 16, 3) := by decide +kernel
theorem dX4_wrong_50 : decode cX4_wrong 50 = .ok (.iload_n 2, 1) := by decide +kernel
theorem dX4_wrong_51 : decode cX4_wrong 51 = .ok (.iaload, 1) := by decide +kernel
theorem dX4_wrong_52 : decode cX4_wrong 52 = .ok (.aload_n 0, 1) := by decide +kernel
theorem dX4_wrong_53 : decode cX4_wrong 53 = .ok (.iload_n 2, 1) := by decide +kernel
theorem dX4_wrong_54 : decode cX4_wrong 54 = .ok (.sipush 255, 3) := by decide +kernel
theorem dX4_wrong_57 : decode cX4_wrong 57 = .ok (.iadd, 1) := by decide +kernel
theorem dX4_wrong_58 : decode cX4_wrong 58 = .ok (.iconst (-1), 1) := by decide +kernel
theorem dX4_wrong_59 : decode cX4_wrong 59 = .ok (.invokevirtual 141, 3) := by decide +kernel
theorem dX4_wrong_62 : decode cX4_wrong 62 = .ok (.if_icmp .eq 9, 3) := by decide +kernel
theorem dX4_wrong_65 : decode cX4_wrong 65 = .ok (.iload_n 1, 1) := by decide +kernel
theorem dX4_wrong_66 : decode cX4_wrong 66 = .ok (.iconst 1, 1) := by decide +kernel
theorem dX4_wrong_67 : decode cX4_wrong 67 = .ok (.iadd, 1) := by decide +kernel
theorem dX4_wrong_68 : decode cX4_wrong 68 = .ok (.goto 4, 3) := by decide +kernel
theorem dX4_wrong_71 : decode cX4_wrong 71 = .ok (.iload_n 1, 1) := by decide +kernel
theorem dX4_wrong_72 : decode cX4_wrong 72 = .ok (.istore_n 1, 1) := by decide +kernel
theorem dX4_wrong_73 : decode cX4_wrong 73 = .ok (.iconst 0, 1) := by decide +kernel
theorem dX4_wrong_74 : decode cX4_wrong 74 = .ok (.istore_n 3, 1) := by decide +kernel
theorem dX4_wrong_75 : decode cX4_wrong 75 = .ok (.iload_n 3, 1) := by decide +kernel
theorem dX4_wrong_76 : decode cX4_wrong 76 = .ok (.bipush 8, 2) := by decide +kernel
theorem dX4_wrong_78 : decode cX4_wrong 78 = .ok (.if_icmp .ge 41, 3) := by decide +kernel
theorem dX4_wrong_81 : decode cX4_wrong 81 = .ok (.aload_n 0, 1) := by decide +kernel
theorem dX4_wrong_82 : decode cX4_wrong 82 = .ok (.getfield 19, 3) := by decide +kernel
theorem dX4_wrong_85 : decode cX4_wrong 85 = .ok (.bipush 8, 2) := by decide +kernel
theorem dX4_wrong_87 : decode cX4_wrong 87 = .ok (.iload_n 2, 1) := by decide +kernel
theorem dX4_wrong_88 : decode cX4_wrong 88 = .ok (.imul, 1) := by decide +kernel
theorem dX4_wrong_89 : decode cX4_wrong 89 = .ok (.iload_n 3, 1) := by decide +kernel
theorem dX4_wrong_90 : decode cX4_wrong 90 = .ok (.iadd, 1) := by decide +kernel
theorem dX4_wrong_91 : decode cX4_wrong 91 = .ok (.iaload, 1) := by decide +kernel
theorem dX4_wrong_92 : decode cX4_wrong 92 = .ok (.aload_n 0, 1) := by decide +kernel
theorem dX4_wrong_93 : decode cX4_wrong 93 = .ok (.iload_n 2, 1) := by decide +kernel
theorem dX4_wrong_94 : decode cX4_wrong 94 = .ok (.iconst 1, 1) := by decide +kernel
theorem dX4_wrong_95 : decode cX4_wrong 95 = .ok (.iload_n 3, 1) := by decide +kernel
theorem dX4_wrong_96 : decode cX4_wrong 96 = .ok (.ishl, 1) := by decide +kernel
theorem dX4_wrong_97 : decode cX4_wrong 97 = .ok (.iadd, 1) := by decide +kernel
theorem dX4_wrong_98 : decode cX4_wrong 98 = .ok (.iconst 1, 1) := by decide +kernel
theorem dX4_wrong_99 : decode cX4_wrong 99 = .ok (.invokevirtual 141, 3) := by decide +kernel
theorem dX4_wrong_102 : decode cX4_wrong 102 = .ok (.if_icmp .eq 9, 3) := by decide +kernel
theorem dX4_wrong_105 : decode cX4_wrong 105 = .ok (.iload_n 1, 1) := by decide +kernel
theorem dX4_wrong_106 : decode cX4_wrong 106 = .ok (.iconst 1, 1) := by decide +kernel
theorem dX4_wrong_107 : decode cX4_wrong 107 = .ok (.iadd, 1) := by decide +kernel
theorem dX4_wrong_108 : decode cX4_wrong 108 = .ok (.goto 4, 3) := by decide +kernel
theorem dX4_wrong_111 : decode cX4_wrong 111 = .ok (.iload_n 1, 1) := by decide +kernel
theorem dX4_wrong_112 : decode cX4_wrong 112 = .ok (.istore_n 1, 1) := by decide +kernel
theorem dX4_wrong_113 : decode cX4_wrong 113 = .ok (.iinc 3 1, 3) := by decide +kernel
theorem dX4_wrong_116 : decode cX4_wrong 116 = .ok (.goto (-41), 3) := by decide +kernel
theorem dX4_wrong_119 : decode cX4_wrong 119 = .ok (.iinc 2 1, 3) := by decide +kernel
theorem dX4_wrong_122 : decode cX4_wrong 122 = .ok (.goto (-118), 3) := by decide +kernel
theorem dX4_wrong_125 : decode cX4_wrong 125 = .ok (.iload_n 1, 1) := by decide +kernel
theorem dX4_wrong_126 : decode cX4_wrong 126 = .ok (.ireturn, 1) := by decide +kernel
theorem dX4_misplaced_0 : decode cX4_misplaced 0 = .ok (.iconst 0, 1) := by decide +kernel
theorem dX4_misplaced_1 : decode cX4_misplaced 1 = .ok (.istore_n 1, 1) := by decide +kernel
theorem dX4_misplaced_2 : decode cX4_misplaced 2 = .ok (.iconst 0, 1) := by decide +kernel
theorem dX4_misplaced_3 : decode cX4_misplaced 3 = .ok (.istore_n 2, 1) := by decide +kernel
theorem dX4_misplaced_4 : decode cX4_misplaced 4 = .ok (.iload_n 2, 1) := by decide +kernel
theorem dX4_misplaced_5 : decode cX4_misplaced 5 = .ok (.aload_n 0, 1) := by decide +kernel
theorem dX4_misplaced_6 : decode cX4_misplaced 6 = .ok (.getfield 96, 3) := by decide +kernel
theorem dX4_misplaced_9 : decode cX4_misplaced 9 = .ok (.if_icmp .ge 37, 3) := by decide +kernel
theorem dX4_misplaced_12 : decode cX4_misplaced 12 = .ok (.aload_n 0, 1) := by decide +kernel
theorem dX4_misplaced_13 : decode cX4_misplaced 13 = .ok (.aload_n 0, 1) := by decide +kernel
theorem dX4_misplaced_14 : decode cX4_misplaced 14 = .ok (.getfield 32, 3) := by decide +kernel
theorem dX4_misplaced_17 : decode cX4_misplaced 17 = .ok (.iload_n 2, 1) := by decide +kernel
theorem dX4_misplaced_18 : decode cX4_misplaced 18 = .ok (.iaload, 1) := by decide +kernel
theorem dX4_misplaced_19 : decode cX4_misplaced 19 = .ok (.iconst 1, 1) := by decide +kernel
theorem dX4_misplaced_20 : decode cX4_misplaced 20 = .ok (.invokevirtual 141, 3) := by decide +kernel
theorem dX4_misplaced_23 : decode cX4_misplaced 23 = .ok (.aload_n 0, 1) := by decide +kernel
theorem dX4_misplaced_24 : decode cX4_misplaced 24 = .ok (.getfield 29, 3) := by decide +kernel
theorem dX4_misplaced_27 : decode cX4_misplaced 27 = .ok (.iload_n 2, 1) := by decide +kernel
theorem dX4_misplaced_28 : decode cX4_misplaced 28 = .ok (.iaload, 1) := by decide +kernel
theorem dX4_misplaced_29 : decode cX4_misplaced 29 = .ok (.if_icmp .eq 9, 3) := by decide +kernel
theorem dX4_misplaced_32 : decode cX4_misplaced 32 = .ok (.iload_n 1, 1) := by decide +kernel
theorem dX4_misplaced_33 : decode cX4_misplaced 33 = .ok (.iconst 1, 1) := by decide +kernel
theorem dX4_misplaced_34 : decode cX4_misplaced 34 = .ok (.iadd, 1) := by decide +kernel
theorem dX4_misplaced_35 : decode cX4_misplaced 35 = .ok (.goto 4, 3) := by decide +kernel
theorem dX4_misplaced_38 : decode cX4_misplaced 38 = .ok (.iload_n 1, 1) := by decide +kernel
theorem dX4_misplaced_39 : decode cX4_misplaced 39 = .ok (.istore_n 1, 1) := by decide +kernel
theorem dX4_misplaced_40 : decode cX4_misplaced 40 = .ok (.iinc 2 1, 3) := by decide +kernel
theorem dX4_misplaced_43 : decode cX4_misplaced 43 = .ok (.goto (-39), 3) := by decide +kernel
theorem dX4_misplaced_46 : decode cX4_misplaced 46 = .ok (.iload_n 1, 1) := by decide +kernel
theorem dX4_misplaced_47 : decode cX4_misplaced 47 = .ok (.ireturn, 1) := by decide +kernel
