theorem dX0_init_0 : decode cX0_init 0 = .ok (.aload_n 0, 1) := by decide +kernel
theorem dX0_init_1 : decode cX0_init 1 = .ok (.invokespecial 1, 3) := by decide +kernel
theorem dX0_init_4 : decode cX0_init 4 = .ok (.aload_n 0, 1) := by decide +kernel
theorem dX0_init_5 : decode cX0_init 5 = .ok (.sipush 360, 3) := by decide +kernel
theorem dX0_init_8 : decode cX0_init 8 = .ok (.newarray .int, 2) := by decide +kernel
theorem dX0_init_10 : decode cX0_init 10 = .ok (.putfield 11, 3) := by decide +kernel
theorem dX0_init_13 : decode cX0_init 13 = .ok (.return_, 1) := by decide +kernel
theorem dX0_forget_0 : decode cX0_forget 0 = .ok (.aload_n 0, 1) := by decide +kernel
theorem dX0_forget_1 : decode cX0_forget 1 = .ok (.iconst 0, 1) := by decide +kernel
theorem dX0_forget_2 : decode cX0_forget 2 = .ok (.putfield 15, 3) := by decide +kernel
theorem dX0_forget_5 : decode cX0_forget 5 = .ok (.return_, 1) := by decide +kernel
theorem dX0_keep_0 : decode cX0_keep 0 = .ok (.aload_n 1, 1) := by decide +kernel
theorem dX0_keep_1 : decode cX0_keep 1 = .ok (.aload_n 0, 1) := by decide +kernel
theorem dX0_keep_2 : decode cX0_keep 2 = .ok (.getfield 11, 3) := by decide +kernel
theorem dX0_keep_5 : decode cX0_keep 5 = .ok (.aload_n 0, 1) := by decide +kernel
theorem dX0_keep_6 : decode cX0_keep 6 = .ok (.getfield 19, 3) := by decide +kernel
theorem dX0_keep_9 : decode cX0_keep 9 = .ok (.bipush 15, 2) := by decide +kernel
theorem dX0_keep_11 : decode cX0_keep 11 = .ok (.imul, 1) := by decide +kernel
theorem dX0_keep_12 : decode cX0_keep 12 = .ok (.invokevirtual 22, 3) := by decide +kernel
theorem dX0_keep_15 : decode cX0_keep 15 = .ok (.aload_n 0, 1) := by decide +kernel
theorem dX0_keep_16 : decode cX0_keep 16 = .ok (.aload_n 0, 1) := by decide +kernel
theorem dX0_keep_17 : decode cX0_keep 17 = .ok (.getfield 19, 3) := by decide +kernel
theorem dX0_keep_20 : decode cX0_keep 20 = .ok (.iconst 1, 1) := by decide +kernel
theorem dX0_keep_21 : decode cX0_keep 21 = .ok (.iadd, 1) := by decide +kernel
theorem dX0_keep_22 : decode cX0_keep 22 = .ok (.bipush 24, 2) := by decide +kernel
theorem dX0_keep_24 : decode cX0_keep 24 = .ok (.irem, 1) := by decide +kernel
theorem dX0_keep_25 : decode cX0_keep 25 = .ok (.putfield 19, 3) := by decide +kernel
theorem dX0_keep_28 : decode cX0_keep 28 = .ok (.aload_n 0, 1) := by decide +kernel
theorem dX0_keep_29 : decode cX0_keep 29 = .ok (.bipush 24, 2) := by decide +kernel
theorem dX0_keep_31 : decode cX0_keep 31 = .ok (.aload_n 0, 1) := by decide +kernel
theorem dX0_keep_32 : decode cX0_keep 32 = .ok (.getfield 15, 3) := by decide +kernel
theorem dX0_keep_35 : decode cX0_keep 35 = .ok (.iconst 1, 1) := by decide +kernel
theorem dX0_keep_36 : decode cX0_keep 36 = .ok (.iadd, 1) := by decide +kernel
theorem dX0_keep_37 : decode cX0_keep 37 = .ok (.invokestatic 26, 3) := by decide +kernel
theorem dX0_keep_40 : decode cX0_keep 40 = .ok (.putfield 15, 3) := by decide +kernel
theorem dX0_keep_43 : decode cX0_keep 43 = .ok (.return_, 1) := by decide +kernel
theorem dX0_takeBack_0 : decode cX0_takeBack 0 = .ok (.aload_n 0, 1) := by decide +kernel
theorem dX0_takeBack_1 : decode cX0_takeBack 1 = .ok (.aload_n 0, 1) := by decide +kernel
theorem dX0_takeBack_2 : decode cX0_takeBack 2 = .ok (.getfield 19, 3) := by decide +kernel
theorem dX0_takeBack_5 : decode cX0_takeBack 5 = .ok (.bipush 24, 2) := by decide +kernel
theorem dX0_takeBack_7 : decode cX0_takeBack 7 = .ok (.iadd, 1) := by decide +kernel
theorem dX0_takeBack_8 : decode cX0_takeBack 8 = .ok (.iconst 1, 1) := by decide +kernel
theorem dX0_takeBack_9 : decode cX0_takeBack 9 = .ok (.isub, 1) := by decide +kernel
theorem dX0_takeBack_10 : decode cX0_takeBack 10 = .ok (.bipush 24, 2) := by decide +kernel
theorem dX0_takeBack_12 : decode cX0_takeBack 12 = .ok (.irem, 1) := by decide +kernel
theorem dX0_takeBack_13 : decode cX0_takeBack 13 = .ok (.putfield 19, 3) := by decide +kernel
theorem dX0_takeBack_16 : decode cX0_takeBack 16 = .ok (.aload_n 1, 1) := by decide +kernel
theorem dX0_takeBack_17 : decode cX0_takeBack 17 = .ok (.aload_n 0, 1) := by decide +kernel
theorem dX0_takeBack_18 : decode cX0_takeBack 18 = .ok (.getfield 11, 3) := by decide +kernel
theorem dX0_takeBack_21 : decode cX0_takeBack 21 = .ok (.aload_n 0, 1) := by decide +kernel
theorem dX0_takeBack_22 : decode cX0_takeBack 22 = .ok (.getfield 19, 3) := by decide +kernel
theorem dX0_takeBack_25 : decode cX0_takeBack 25 = .ok (.bipush 15, 2) := by decide +kernel
theorem dX0_takeBack_27 : decode cX0_takeBack 27 = .ok (.imul, 1) := by decide +kernel
theorem dX0_takeBack_28 : decode cX0_takeBack 28 = .ok (.invokevirtual 32, 3) := by decide +kernel
theorem dX0_takeBack_31 : decode cX0_takeBack 31 = .ok (.aload_n 0, 1) := by decide +kernel
theorem dX0_takeBack_32 : decode cX0_takeBack 32 = .ok (.dup, 1) := by decide +kernel
theorem dX0_takeBack_33 : decode cX0_takeBack 33 = .ok (.getfield 15, 3) := by decide +kernel
theorem dX0_takeBack_36 : decode cX0_takeBack 36 = .ok (.iconst 1, 1) := by decide +kernel
theorem dX0_takeBack_37 : decode cX0_takeBack 37 = .ok (.isub, 1) := by decide +kernel
theorem dX0_takeBack_38 : decode cX0_takeBack 38 = .ok (.putfield 15, 3) := by decide +kernel
theorem dX0_takeBack_41 : decode cX0_takeBack 41 = .ok (.return_, 1) := by decide +kernel
theorem dX1_init_0 : decode cX1_init 0 = .ok (.aload_n 0, 1) := by decide +kernel
theorem dX1_init_1 : decode cX1_init 1 = .ok (.invokespecial 1, 3) := by decide +kernel
theorem dX1_init_4 : decode cX1_init 4 = .ok (.aload_n 0, 1) := by decide +kernel
theorem dX1_init_5 : decode cX1_init 5 = .ok (.bipush 16, 2) := by decide +kernel
theorem dX1_init_7 : decode cX1_init 7 = .ok (.newarray .int, 2) := by decide +kernel
theorem dX1_init_9 : decode cX1_init 9 = .ok (.putfield 9, 3) := by decide +kernel
theorem dX1_init_12 : decode cX1_init 12 = .ok (.return_, 1) := by decide +kernel
theorem dX1_isOne_0 : decode cX1_isOne 0 = .ok (.iload_n 1, 1) := by decide +kernel
theorem dX1_isOne_1 : decode cX1_isOne 1 = .ok (.iload_n 2, 1) := by decide +kernel
theorem dX1_isOne_2 : decode cX1_isOne 2 = .ok (.if_icmp .eq 25, 3) := by decide +kernel
theorem dX1_isOne_5 : decode cX1_isOne 5 = .ok (.getstatic 13, 3) := by decide +kernel
theorem dX1_isOne_8 : decode cX1_isOne 8 = .ok (.iload_n 1, 1) := by decide +kernel
theorem dX1_isOne_9 : decode cX1_isOne 9 = .ok (.iaload, 1) := by decide +kernel
theorem dX1_isOne_10 : decode cX1_isOne 10 = .ok (.iload_n 2, 1) := by decide +kernel
theorem dX1_isOne_11 : decode cX1_isOne 11 = .ok (.if_icmp .eq 16, 3) := by decide +kernel
theorem dX1_isOne_14 : decode cX1_isOne 14 = .ok (.getstatic 13, 3) := by decide +kernel
theorem dX1_isOne_17 : decode cX1_isOne 17 = .ok (.getstatic 13, 3) := by decide +kernel
theorem dX1_isOne_20 : decode cX1_isOne 20 = .ok (.iload_n 1, 1) := by decide +kernel
theorem dX1_isOne_21 : decode cX1_isOne 21 = .ok (.iaload, 1) := by decide +kernel
theorem dX1_isOne_22 : decode cX1_isOne 22 = .ok (.iaload, 1) := by decide +kernel
theorem dX1_isOne_23 : decode cX1_isOne 23 = .ok (.iload_n 2, 1) := by decide +kernel
theorem dX1_isOne_24 : decode cX1_isOne 24 = .ok (.if_icmp .ne 7, 3) := by decide +kernel
theorem dX1_isOne_27 : decode cX1_isOne 27 = .ok (.iconst 1, 1) := by decide +kernel
theorem dX1_isOne_28 : decode cX1_isOne 28 = .ok (.goto 4, 3) := by decide +kernel
theorem dX1_isOne_31 : decode cX1_isOne 31 = .ok (.iconst 0, 1) := by decide +kernel
theorem dX1_isOne_32 : decode cX1_isOne 32 = .ok (.ireturn, 1) := by decide +kernel
theorem dX1_answer_0 : decode cX1_answer 0 = .ok (.aload_n 0, 1) := by decide +kernel
theorem dX1_answer_1 : decode cX1_answer 1 = .ok (.iconst 0, 1) := by decide +kernel
theorem dX1_answer_2 : decode cX1_answer 2 = .ok (.putfield 16, 3) := by decide +kernel
theorem dX1_answer_5 : decode cX1_answer 5 = .ok (.aload_n 0, 1) := by decide +kernel
theorem dX1_answer_6 : decode cX1_answer 6 = .ok (.aload_n 1, 1) := by decide +kernel
theorem dX1_answer_7 : decode cX1_answer 7 = .ok (.iload_n 2, 1) := by decide +kernel
theorem dX1_answer_8 : decode cX1_answer 8 = .ok (.aload_n 1, 1) := by decide +kernel
theorem dX1_answer_9 : decode cX1_answer 9 = .ok (.getfield 20, 3) := by decide +kernel
theorem dX1_answer_12 : decode cX1_answer 12 = .ok (.iload_n 2, 1) := by decide +kernel
theorem dX1_answer_13 : decode cX1_answer 13 = .ok (.iaload, 1) := by decide +kernel
theorem dX1_answer_14 : decode cX1_answer 14 = .ok (.iload_n 3, 1) := by decide +kernel
theorem dX1_answer_15 : decode cX1_answer 15 = .ok (.invokestatic 25, 3) := by decide +kernel
theorem dX1_answer_18 : decode cX1_answer 18 = .ok (.iconst 0, 1) := by decide +kernel
theorem dX1_answer_19 : decode cX1_answer 19 = .ok (.invokevirtual 29, 3) := by decide +kernel
theorem dX1_answer_22 : decode cX1_answer 22 = .ok (.ireturn, 1) := by decide +kernel
theorem dX1_bodyFor_0 : decode cX1_bodyFor 0 = .ok (.iload_n 1, 1) := by decide +kernel
theorem dX1_bodyFor_1 : decode cX1_bodyFor 1 = .ok (.ifCond .ne 9, 3) := by decide +kernel
theorem dX1_bodyFor_4 : decode cX1_bodyFor 4 = .ok (.getstatic 33, 3) := by decide +kernel
theorem dX1_bodyFor_7 : decode cX1_bodyFor 7 = .ok (.goto 6, 3) := by decide +kernel
theorem dX1_bodyFor_10 : decode cX1_bodyFor 10 = .ok (.getstatic 36, 3) := by decide +kernel
theorem dX1_bodyFor_13 : decode cX1_bodyFor 13 = .ok (.astore_n 2, 1) := by decide +kernel
theorem dX1_bodyFor_14 : decode cX1_bodyFor 14 = .ok (.aload_n 2, 1) := by decide +kernel
theorem dX1_bodyFor_15 : decode cX1_bodyFor 15 = .ok (.iload_n 0, 1) := by decide +kernel
theorem dX1_bodyFor_16 : decode cX1_bodyFor 16 = .ok (.iaload, 1) := by decide +kernel
theorem dX1_bodyFor_17 : decode cX1_bodyFor 17 = .ok (.ifCond .eq 9, 3) := by decide +kernel
theorem dX1_bodyFor_20 : decode cX1_bodyFor 20 = .ok (.aload_n 2, 1) := by decide +kernel
theorem dX1_bodyFor_21 : decode cX1_bodyFor 21 = .ok (.iload_n 0, 1) := by decide +kernel
theorem dX1_bodyFor_22 : decode cX1_bodyFor 22 = .ok (.iaload, 1) := by decide +kernel
theorem dX1_bodyFor_23 : decode cX1_bodyFor 23 = .ok (.goto 10, 3) := by decide +kernel
theorem dX1_bodyFor_26 : decode cX1_bodyFor 26 = .ok (.aload_n 2, 1) := by decide +kernel
theorem dX1_bodyFor_27 : decode cX1_bodyFor 27 = .ok (.getstatic 13, 3) := by decide +kernel
theorem dX1_bodyFor_30 : decode cX1_bodyFor 30 = .ok (.iload_n 0, 1) := by decide +kernel
theorem dX1_bodyFor_31 : decode cX1_bodyFor 31 = .ok (.iaload, 1) := by decide +kernel
theorem dX1_bodyFor_32 : decode cX1_bodyFor 32 = .ok (.iaload, 1) := by decide +kernel
theorem dX1_bodyFor_33 : decode cX1_bodyFor 33 = .ok (.ireturn, 1) := by decide +kernel
theorem dX1_begin_0 : decode cX1_begin 0 = .ok (.iload 4, 2) := by decide +kernel
theorem dX1_begin_2 : decode cX1_begin 2 = .ok (.bipush 8, 2) := by decide +kernel
theorem dX1_begin_4 : decode cX1_begin 4 = .ok (.if_icmp .le 5, 3) := by decide +kernel
theorem dX1_begin_7 : decode cX1_begin 7 = .ok (.iconst 0, 1) := by decide +kernel
theorem dX1_begin_8 : decode cX1_begin 8 = .ok (.ireturn, 1) := by decide +kernel
theorem dX1_begin_9 : decode cX1_begin 9 = .ok (.aload_n 0, 1) := by decide +kernel
theorem dX1_begin_10 : decode cX1_begin 10 = .ok (.getfield 16, 3) := by decide +kernel
theorem dX1_begin_13 : decode cX1_begin 13 = .ok (.bipush 16, 2) := by decide +kernel
theorem dX1_begin_15 : decode cX1_begin 15 = .ok (.if_icmp .ge 20, 3) := by decide +kernel
theorem dX1_begin_18 : decode cX1_begin 18 = .ok (.aload_n 0, 1) := by decide +kernel
theorem dX1_begin_19 : decode cX1_begin 19 = .ok (.getfield 9, 3) := by decide +kernel
theorem dX1_begin_22 : decode cX1_begin 22 = .ok (.aload_n 0, 1) := by decide +kernel
theorem dX1_begin_23 : decode cX1_begin 23 = .ok (.dup, 1) := by decide +kernel
theorem dX1_begin_24 : decode cX1_begin 24 = .ok (.getfield 16, 3) := by decide +kernel
theorem dX1_begin_27 : decode cX1_begin 27 = .ok (.dup_x1, 1) := by decide +kernel
theorem dX1_begin_28 : decode cX1_begin 28 = .ok (.iconst 1, 1) := by decide +kernel
theorem dX1_begin_29 : decode cX1_begin 29 = .ok (.iadd, 1) := by decide +kernel
theorem dX1_begin_30 : decode cX1_begin 30 = .ok (.putfield 16, 3) := by decide +kernel
theorem dX1_begin_33 : decode cX1_begin 33 = .ok (.iload_n 3, 1) := by decide +kernel
theorem dX1_begin_34 : decode cX1_begin 34 = .ok (.iastore, 1) := by decide +kernel
theorem dX1_begin_35 : decode cX1_begin 35 = .ok (.iload 4, 2) := by decide +kernel
theorem dX1_begin_37 : decode cX1_begin 37 = .ok (.iconst 1, 1) := by decide +kernel
theorem dX1_begin_38 : decode cX1_begin 38 = .ok (.iadd, 1) := by decide +kernel
theorem dX1_begin_39 : decode cX1_begin 39 = .ok (.istore 5, 2) := by decide +kernel
theorem dX1_begin_41 : decode cX1_begin 41 = .ok (.iload_n 3, 1) := by decide +kernel
theorem dX1_begin_42 : decode cX1_begin 42 = .ok (.tableswitch 218 10 24 #[74, 81, 102, 114, 128, 218, 218, 218, 218, 218, 141, 143, 169, 184, 205], 74) := by decide +kernel
theorem dX1_begin_116 : decode cX1_begin 116 = .ok (.aload_n 1, 1) := by decide +kernel
theorem dX1_begin_117 : decode cX1_begin 117 = .ok (.getfield 39, 3) := by decide +kernel
theorem dX1_begin_120 : decode cX1_begin 120 = .ok (.iload_n 2, 1) := by decide +kernel
theorem dX1_begin_121 : decode cX1_begin 121 = .ok (.iaload, 1) := by decide +kernel
theorem dX1_begin_122 : decode cX1_begin 122 = .ok (.ireturn, 1) := by decide +kernel
theorem dX1_begin_123 : decode cX1_begin 123 = .ok (.aload_n 0, 1) := by decide +kernel
theorem dX1_begin_124 : decode cX1_begin 124 = .ok (.aload_n 1, 1) := by decide +kernel
theorem dX1_begin_125 : decode cX1_begin 125 = .ok (.iload_n 2, 1) := by decide +kernel
theorem dX1_begin_126 : decode cX1_begin 126 = .ok (.bipush 10, 2) := by decide +kernel
theorem dX1_begin_128 : decode cX1_begin 128 = .ok (.iload 5, 2) := by decide +kernel
theorem dX1_begin_130 : decode cX1_begin 130 = .ok (.invokevirtual 29, 3) := by decide +kernel
theorem dX1_begin_133 : decode cX1_begin 133 = .ok (.aload_n 0, 1) := by decide +kernel
theorem dX1_begin_134 : decode cX1_begin 134 = .ok (.aload_n 1, 1) := by decide +kernel
theorem dX1_begin_135 : decode cX1_begin 135 = .ok (.iload_n 2, 1) := by decide +kernel
theorem dX1_begin_136 : decode cX1_begin 136 = .ok (.iconst 1, 1) := by decide +kernel
theorem dX1_begin_137 : decode cX1_begin 137 = .ok (.iload 5, 2) := by decide +kernel
theorem dX1_begin_139 : decode cX1_begin 139 = .ok (.invokevirtual 42, 3) := by decide +kernel
theorem dX1_begin_142 : decode cX1_begin 142 = .ok (.iadd, 1) := by decide +kernel
theorem dX1_begin_143 : decode cX1_begin 143 = .ok (.ireturn, 1) := by decide +kernel
theorem dX1_begin_144 : decode cX1_begin 144 = .ok (.aload_n 0, 1) := by decide +kernel
theorem dX1_begin_145 : decode cX1_begin 145 = .ok (.aload_n 1, 1) := by decide +kernel
theorem dX1_begin_146 : decode cX1_begin 146 = .ok (.iload_n 2, 1) := by decide +kernel
theorem dX1_begin_147 : decode cX1_begin 147 = .ok (.bipush 11, 2) := by decide +kernel
theorem dX1_begin_149 : decode cX1_begin 149 = .ok (.iload 5, 2) := by decide +kernel
theorem dX1_begin_151 : decode cX1_begin 151 = .ok (.invokevirtual 29, 3) := by decide +kernel
theorem dX1_begin_154 : decode cX1_begin 154 = .ok (.ineg, 1) := by decide +kernel
theorem dX1_begin_155 : decode cX1_begin 155 = .ok (.ireturn, 1) := by decide +kernel
theorem dX1_begin_156 : decode cX1_begin 156 = .ok (.aload_n 0, 1) := by decide +kernel
theorem dX1_begin_157 : decode cX1_begin 157 = .ok (.aload_n 1, 1) := by decide +kernel
theorem dX1_begin_158 : decode cX1_begin 158 = .ok (.iload_n 2, 1) := by decide +kernel
theorem dX1_begin_159 : decode cX1_begin 159 = .ok (.bipush 10, 2) := by decide +kernel
theorem dX1_begin_161 : decode cX1_begin 161 = .ok (.iload 5, 2) := by decide +kernel
theorem dX1_begin_163 : decode cX1_begin 163 = .ok (.invokevirtual 29, 3) := by decide +kernel
theorem dX1_begin_166 : decode cX1_begin 166 = .ok (.bipush 100, 2) := by decide +kernel
theorem dX1_begin_168 : decode cX1_begin 168 = .ok (.isub, 1) := by decide +kernel
theorem dX1_begin_169 : decode cX1_begin 169 = .ok (.ireturn, 1) := by decide +kernel
theorem dX1_begin_170 : decode cX1_begin 170 = .ok (.iconst 2, 1) := by decide +kernel
theorem dX1_begin_171 : decode cX1_begin 171 = .ok (.aload_n 0, 1) := by decide +kernel
theorem dX1_begin_172 : decode cX1_begin 172 = .ok (.aload_n 1, 1) := by decide +kernel
theorem dX1_begin_173 : decode cX1_begin 173 = .ok (.iload_n 2, 1) := by decide +kernel
theorem dX1_begin_174 : decode cX1_begin 174 = .ok (.bipush 13, 2) := by decide +kernel
theorem dX1_begin_176 : decode cX1_begin 176 = .ok (.iload 5, 2) := by decide +kernel
theorem dX1_begin_178 : decode cX1_begin 178 = .ok (.invokevirtual 29, 3) := by decide +kernel
theorem dX1_begin_181 : decode cX1_begin 181 = .ok (.imul, 1) := by decide +kernel
theorem dX1_begin_182 : decode cX1_begin 182 = .ok (.ireturn, 1) := by decide +kernel
theorem dX1_begin_183 : decode cX1_begin 183 = .ok (.iload_n 2, 1) := by decide +kernel
theorem dX1_begin_184 : decode cX1_begin 184 = .ok (.ireturn, 1) := by decide +kernel
theorem dX1_begin_185 : decode cX1_begin 185 = .ok (.aload_n 0, 1) := by decide +kernel
theorem dX1_begin_186 : decode cX1_begin 186 = .ok (.aload_n 1, 1) := by decide +kernel
theorem dX1_begin_187 : decode cX1_begin 187 = .ok (.iload_n 2, 1) := by decide +kernel
theorem dX1_begin_188 : decode cX1_begin 188 = .ok (.bipush 20, 2) := by decide +kernel
theorem dX1_begin_190 : decode cX1_begin 190 = .ok (.iload 5, 2) := by decide +kernel
theorem dX1_begin_192 : decode cX1_begin 192 = .ok (.invokevirtual 29, 3) := by decide +kernel
theorem dX1_begin_195 : decode cX1_begin 195 = .ok (.aload_n 1, 1) := by decide +kernel
theorem dX1_begin_196 : decode cX1_begin 196 = .ok (.getfield 45, 3) := by decide +kernel
theorem dX1_begin_199 : decode cX1_begin 199 = .ok (.getfield 49, 3) := by decide +kernel
theorem dX1_begin_202 : decode cX1_begin 202 = .ok (.aload_n 1, 1) := by decide +kernel
theorem dX1_begin_203 : decode cX1_begin 203 = .ok (.getfield 54, 3) := by decide +kernel
theorem dX1_begin_206 : decode cX1_begin 206 = .ok (.iload_n 2, 1) := by decide +kernel
theorem dX1_begin_207 : decode cX1_begin 207 = .ok (.iaload, 1) := by decide +kernel
theorem dX1_begin_208 : decode cX1_begin 208 = .ok (.iaload, 1) := by decide +kernel
theorem dX1_begin_209 : decode cX1_begin 209 = .ok (.iadd, 1) := by decide +kernel
theorem dX1_begin_210 : decode cX1_begin 210 = .ok (.ireturn, 1) := by decide +kernel
theorem dX1_begin_211 : decode cX1_begin 211 = .ok (.aload_n 0, 1) := by decide +kernel
theorem dX1_begin_212 : decode cX1_begin 212 = .ok (.aload_n 1, 1) := by decide +kernel
theorem dX1_begin_213 : decode cX1_begin 213 = .ok (.iload_n 2, 1) := by decide +kernel
theorem dX1_begin_214 : decode cX1_begin 214 = .ok (.bipush 21, 2) := by decide +kernel
theorem dX1_begin_216 : decode cX1_begin 216 = .ok (.iload 5, 2) := by decide +kernel
theorem dX1_begin_218 : decode cX1_begin 218 = .ok (.invokevirtual 29, 3) := by decide +kernel
theorem dX1_begin_221 : decode cX1_begin 221 = .ok (.sipush 1000, 3) := by decide +kernel
theorem dX1_begin_224 : decode cX1_begin 224 = .ok (.isub, 1) := by decide +kernel
theorem dX1_begin_225 : decode cX1_begin 225 = .ok (.ireturn, 1) := by decide +kernel
theorem dX1_begin_226 : decode cX1_begin 226 = .ok (.aload_n 0, 1) := by decide +kernel
theorem dX1_begin_227 : decode cX1_begin 227 = .ok (.aload_n 1, 1) := by decide +kernel
theorem dX1_begin_228 : decode cX1_begin 228 = .ok (.iload_n 2, 1) := by decide +kernel
theorem dX1_begin_229 : decode cX1_begin 229 = .ok (.bipush 20, 2) := by decide +kernel
theorem dX1_begin_231 : decode cX1_begin 231 = .ok (.iload 5, 2) := by decide +kernel
theorem dX1_begin_233 : decode cX1_begin 233 = .ok (.invokevirtual 29, 3) := by decide +kernel
theorem dX1_begin_236 : decode cX1_begin 236 = .ok (.aload_n 0, 1) := by decide +kernel
theorem dX1_begin_237 : decode cX1_begin 237 = .ok (.aload_n 1, 1) := by decide +kernel
theorem dX1_begin_238 : decode cX1_begin 238 = .ok (.iload_n 2, 1) := by decide +kernel
theorem dX1_begin_239 : decode cX1_begin 239 = .ok (.iconst 0, 1) := by decide +kernel
theorem dX1_begin_240 : decode cX1_begin 240 = .ok (.iload 5, 2) := by decide +kernel
theorem dX1_begin_242 : decode cX1_begin 242 = .ok (.invokevirtual 42, 3) := by decide +kernel
theorem dX1_begin_245 : decode cX1_begin 245 = .ok (.isub, 1) := by decide +kernel
theorem dX1_begin_246 : decode cX1_begin 246 = .ok (.ireturn, 1) := by decide +kernel
theorem dX1_begin_247 : decode cX1_begin 247 = .ok (.iconst 2, 1) := by decide +kernel
theorem dX1_begin_248 : decode cX1_begin 248 = .ok (.aload_n 0, 1) := by decide +kernel
theorem dX1_begin_249 : decode cX1_begin 249 = .ok (.aload_n 1, 1) := by decide +kernel
theorem dX1_begin_250 : decode cX1_begin 250 = .ok (.iload_n 2, 1) := by decide +kernel
theorem dX1_begin_251 : decode cX1_begin 251 = .ok (.bipush 21, 2) := by decide +kernel
theorem dX1_begin_253 : decode cX1_begin 253 = .ok (.iload 5, 2) := by decide +kernel
theorem dX1_begin_255 : decode cX1_begin 255 = .ok (.invokevirtual 29, 3) := by decide +kernel
theorem dX1_begin_258 : decode cX1_begin 258 = .ok (.imul, 1) := by decide +kernel
theorem dX1_begin_259 : decode cX1_begin 259 = .ok (.ireturn, 1) := by decide +kernel
theorem dX1_begin_260 : decode cX1_begin 260 = .ok (.iconst 0, 1) := by decide +kernel
theorem dX1_begin_261 : decode cX1_begin 261 = .ok (.ireturn, 1) := by decide +kernel
theorem dX1_anew_0 : decode cX1_anew 0 = .ok (.aload_n 0, 1) := by decide +kernel
theorem dX1_anew_1 : decode cX1_anew 1 = .ok (.aload_n 1, 1) := by decide +kernel
theorem dX1_anew_2 : decode cX1_anew 2 = .ok (.iload_n 2, 1) := by decide +kernel
theorem dX1_anew_3 : decode cX1_anew 3 = .ok (.aload_n 1, 1) := by decide +kernel
theorem dX1_anew_4 : decode cX1_anew 4 = .ok (.getfield 20, 3) := by decide +kernel
theorem dX1_anew_7 : decode cX1_anew 7 = .ok (.iload_n 2, 1) := by decide +kernel
theorem dX1_anew_8 : decode cX1_anew 8 = .ok (.iaload, 1) := by decide +kernel
theorem dX1_anew_9 : decode cX1_anew 9 = .ok (.iload_n 3, 1) := by decide +kernel
theorem dX1_anew_10 : decode cX1_anew 10 = .ok (.invokestatic 25, 3) := by decide +kernel
theorem dX1_anew_13 : decode cX1_anew 13 = .ok (.iload 4, 2) := by decide +kernel
theorem dX1_anew_15 : decode cX1_anew 15 = .ok (.invokevirtual 29, 3) := by decide +kernel
theorem dX1_anew_18 : decode cX1_anew 18 = .ok (.ireturn, 1) := by decide +kernel
theorem dX2_init_0 : decode cX2_init 0 = .ok (.aload_n 0, 1) := by decide +kernel
theorem dX2_init_1 : decode cX2_init 1 = .ok (.invokespecial 3, 3) := by decide +kernel
theorem dX2_init_4 : decode cX2_init 4 = .ok (.aload_n 0, 1) := by decide +kernel
theorem dX2_init_5 : decode cX2_init 5 = .ok (.new 9, 3) := by decide +kernel
theorem dX2_init_8 : decode cX2_init 8 = .ok (.dup, 1) := by decide +kernel
theorem dX2_init_9 : decode cX2_init 9 = .ok (.invokespecial 11, 3) := by decide +kernel
theorem dX2_init_12 : decode cX2_init 12 = .ok (.putfield 12, 3) := by decide +kernel
theorem dX2_init_15 : decode cX2_init 15 = .ok (.aload_n 0, 1) := by decide +kernel
theorem dX2_init_16 : decode cX2_init 16 = .ok (.bipush 7, 2) := by decide +kernel
theorem dX2_init_18 : decode cX2_init 18 = .ok (.newarray .int, 2) := by decide +kernel
theorem dX2_init_20 : decode cX2_init 20 = .ok (.putfield 18, 3) := by decide +kernel
theorem dX2_init_23 : decode cX2_init 23 = .ok (.aload_n 0, 1) := by decide +kernel
theorem dX2_init_24 : decode cX2_init 24 = .ok (.iconst 3, 1) := by decide +kernel
theorem dX2_init_25 : decode cX2_init 25 = .ok (.newarray .int, 2) := by decide +kernel
theorem dX2_init_27 : decode cX2_init 27 = .ok (.putfield 22, 3) := by decide +kernel
theorem dX2_init_30 : decode cX2_init 30 = .ok (.aload_n 0, 1) := by decide +kernel
theorem dX2_init_31 : decode cX2_init 31 = .ok (.new 9, 3) := by decide +kernel
theorem dX2_init_34 : decode cX2_init 34 = .ok (.dup, 1) := by decide +kernel
theorem dX2_init_35 : decode cX2_init 35 = .ok (.invokespecial 11, 3) := by decide +kernel
theorem dX2_init_38 : decode cX2_init 38 = .ok (.putfield 25, 3) := by decide +kernel
theorem dX2_init_41 : decode cX2_init 41 = .ok (.aload_n 0, 1) := by decide +kernel
theorem dX2_init_42 : decode cX2_init 42 = .ok (.bipush 8, 2) := by decide +kernel
theorem dX2_init_44 : decode cX2_init 44 = .ok (.anewarray 9, 3) := by decide +kernel
theorem dX2_init_47 : decode cX2_init 47 = .ok (.dup, 1) := by decide +kernel
theorem dX2_init_48 : decode cX2_init 48 = .ok (.iconst 0, 1) := by decide +kernel
theorem dX2_init_49 : decode cX2_init 49 = .ok (.new 9, 3) := by decide +kernel
theorem dX2_init_52 : decode cX2_init 52 = .ok (.dup, 1) := by decide +kernel
theorem dX2_init_53 : decode cX2_init 53 = .ok (.invokespecial 11, 3) := by decide +kernel
theorem dX2_init_56 : decode cX2_init 56 = .ok (.aastore, 1) := by decide +kernel
theorem dX2_init_57 : decode cX2_init 57 = .ok (.dup, 1) := by decide +kernel
theorem dX2_init_58 : decode cX2_init 58 = .ok (.iconst 1, 1) := by decide +kernel
theorem dX2_init_59 : decode cX2_init 59 = .ok (.new 9, 3) := by decide +kernel
theorem dX2_init_62 : decode cX2_init 62 = .ok (.dup, 1) := by decide +kernel
theorem dX2_init_63 : decode cX2_init 63 = .ok (.invokespecial 11, 3) := by decide +kernel
theorem dX2_init_66 : decode cX2_init 66 = .ok (.aastore, 1) := by decide +kernel
theorem dX2_init_67 : decode cX2_init 67 = .ok (.dup, 1) := by decide +kernel
theorem dX2_init_68 : decode cX2_init 68 = .ok (.iconst 2, 1) := by decide +kernel
theorem dX2_init_69 : decode cX2_init 69 = .ok (.new 9, 3) := by decide +kernel
theorem dX2_init_72 : decode cX2_init 72 = .ok (.dup, 1) := by decide +kernel
theorem dX2_init_73 : decode cX2_init 73 = .ok (.invokespecial 11, 3) := by decide +kernel
theorem dX2_init_76 : decode cX2_init 76 = .ok (.aastore, 1) := by decide +kernel
theorem dX2_init_77 : decode cX2_init 77 = .ok (.dup, 1) := by decide +kernel
theorem dX2_init_78 : decode cX2_init 78 = .ok (.iconst 3, 1) := by decide +kernel
theorem dX2_init_79 : decode cX2_init 79 = .ok (.new 9, 3) := by decide +kernel
theorem dX2_init_82 : decode cX2_init 82 = .ok (.dup, 1) := by decide +kernel
theorem dX2_init_83 : decode cX2_init 83 = .ok (.invokespecial 11, 3) := by decide +kernel
theorem dX2_init_86 : decode cX2_init 86 = .ok (.aastore, 1) := by decide +kernel
theorem dX2_init_87 : decode cX2_init 87 = .ok (.dup, 1) := by decide +kernel
theorem dX2_init_88 : decode cX2_init 88 = .ok (.iconst 4, 1) := by decide +kernel
theorem dX2_init_89 : decode cX2_init 89 = .ok (.new 9, 3) := by decide +kernel
theorem dX2_init_92 : decode cX2_init 92 = .ok (.dup, 1) := by decide +kernel
theorem dX2_init_93 : decode cX2_init 93 = .ok (.invokespecial 11, 3) := by decide +kernel
theorem dX2_init_96 : decode cX2_init 96 = .ok (.aastore, 1) := by decide +kernel
theorem dX2_init_97 : decode cX2_init 97 = .ok (.dup, 1) := by decide +kernel
theorem dX2_init_98 : decode cX2_init 98 = .ok (.iconst 5, 1) := by decide +kernel
theorem dX2_init_99 : decode cX2_init 99 = .ok (.new 9, 3) := by decide +kernel
theorem dX2_init_102 : decode cX2_init 102 = .ok (.dup, 1) := by decide +kernel
theorem dX2_init_103 : decode cX2_init 103 = .ok (.invokespecial 11, 3) := by decide +kernel
theorem dX2_init_106 : decode cX2_init 106 = .ok (.aastore, 1) := by decide +kernel
theorem dX2_init_107 : decode cX2_init 107 = .ok (.dup, 1) := by decide +kernel
theorem dX2_init_108 : decode cX2_init 108 = .ok (.bipush 6, 2) := by decide +kernel
theorem dX2_init_110 : decode cX2_init 110 = .ok (.new 9, 3) := by decide +kernel
theorem dX2_init_113 : decode cX2_init 113 = .ok (.dup, 1) := by decide +kernel
theorem dX2_init_114 : decode cX2_init 114 = .ok (.invokespecial 11, 3) := by decide +kernel
theorem dX2_init_117 : decode cX2_init 117 = .ok (.aastore, 1) := by decide +kernel
theorem dX2_init_118 : decode cX2_init 118 = .ok (.dup, 1) := by decide +kernel
theorem dX2_init_119 : decode cX2_init 119 = .ok (.bipush 7, 2) := by decide +kernel
theorem dX2_init_121 : decode cX2_init 121 = .ok (.new 9, 3) := by decide +kernel
theorem dX2_init_124 : decode cX2_init 124 = .ok (.dup, 1) := by decide +kernel
theorem dX2_init_125 : decode cX2_init 125 = .ok (.invokespecial 11, 3) := by decide +kernel
theorem dX2_init_128 : decode cX2_init 128 = .ok (.aastore, 1) := by decide +kernel
theorem dX2_init_129 : decode cX2_init 129 = .ok (.putfield 28, 3) := by decide +kernel
theorem dX2_init_132 : decode cX2_init 132 = .ok (.return_, 1) := by decide +kernel
theorem dX2_behind_0 : decode cX2_behind 0 = .ok (.aload_n 0, 1) := by decide +kernel
theorem dX2_behind_1 : decode cX2_behind 1 = .ok (.aload_n 2, 1) := by decide +kernel
theorem dX2_behind_2 : decode cX2_behind 2 = .ok (.aload_n 1, 1) := by decide +kernel
theorem dX2_behind_3 : decode cX2_behind 3 = .ok (.iload_n 3, 1) := by decide +kernel
theorem dX2_behind_4 : decode cX2_behind 4 = .ok (.invokevirtual 32, 3) := by decide +kernel
theorem dX2_behind_7 : decode cX2_behind 7 = .ok (.invokevirtual 38, 3) := by decide +kernel
theorem dX2_behind_10 : decode cX2_behind 10 = .ok (.areturn, 1) := by decide +kernel
theorem dX2_sunkBy_0 : decode cX2_sunkBy 0 = .ok (.aload_n 0, 1) := by decide +kernel
theorem dX2_sunkBy_1 : decode cX2_sunkBy 1 = .ok (.getfield 25, 3) := by decide +kernel
theorem dX2_sunkBy_4 : decode cX2_sunkBy 4 = .ok (.aload_n 1, 1) := by decide +kernel
theorem dX2_sunkBy_5 : decode cX2_sunkBy 5 = .ok (.invokevirtual 42, 3) := by decide +kernel
theorem dX2_sunkBy_8 : decode cX2_sunkBy 8 = .ok (.aload_n 0, 1) := by decide +kernel
theorem dX2_sunkBy_9 : decode cX2_sunkBy 9 = .ok (.getfield 25, 3) := by decide +kernel
theorem dX2_sunkBy_12 : decode cX2_sunkBy 12 = .ok (.iload_n 2, 1) := by decide +kernel
theorem dX2_sunkBy_13 : decode cX2_sunkBy 13 = .ok (.invokevirtual 46, 3) := by decide +kernel
theorem dX2_sunkBy_16 : decode cX2_sunkBy 16 = .ok (.aload_n 0, 1) := by decide +kernel
theorem dX2_sunkBy_17 : decode cX2_sunkBy 17 = .ok (.getfield 25, 3) := by decide +kernel
theorem dX2_sunkBy_20 : decode cX2_sunkBy 20 = .ok (.areturn, 1) := by decide +kernel
theorem dX2_untilLevelIs_0 : decode cX2_untilLevelIs 0 = .ok (.iconst 0, 1) := by decide +kernel
theorem dX2_untilLevelIs_1 : decode cX2_untilLevelIs 1 = .ok (.istore_n 3, 1) := by decide +kernel
theorem dX2_untilLevelIs_2 : decode cX2_untilLevelIs 2 = .ok (.iload_n 3, 1) := by decide +kernel
theorem dX2_untilLevelIs_3 : decode cX2_untilLevelIs 3 = .ok (.bipush 60, 2) := by decide +kernel
theorem dX2_untilLevelIs_5 : decode cX2_untilLevelIs 5 = .ok (.if_icmp .gt 27, 3) := by decide +kernel
theorem dX2_untilLevelIs_8 : decode cX2_untilLevelIs 8 = .ok (.aload_n 1, 1) := by decide +kernel
theorem dX2_untilLevelIs_9 : decode cX2_untilLevelIs 9 = .ok (.aload_n 0, 1) := by decide +kernel
theorem dX2_untilLevelIs_10 : decode cX2_untilLevelIs 10 = .ok (.aload_n 1, 1) := by decide +kernel
theorem dX2_untilLevelIs_11 : decode cX2_untilLevelIs 11 = .ok (.aload_n 1, 1) := by decide +kernel
theorem dX2_untilLevelIs_12 : decode cX2_untilLevelIs 12 = .ok (.getfield 50, 3) := by decide +kernel
theorem dX2_untilLevelIs_15 : decode cX2_untilLevelIs 15 = .ok (.iload_n 3, 1) := by decide +kernel
theorem dX2_untilLevelIs_16 : decode cX2_untilLevelIs 16 = .ok (.invokevirtual 53, 3) := by decide +kernel
theorem dX2_untilLevelIs_19 : decode cX2_untilLevelIs 19 = .ok (.invokevirtual 57, 3) := by decide +kernel
theorem dX2_untilLevelIs_22 : decode cX2_untilLevelIs 22 = .ok (.iload_n 2, 1) := by decide +kernel
theorem dX2_untilLevelIs_23 : decode cX2_untilLevelIs 23 = .ok (.if_icmp .eq 9, 3) := by decide +kernel
theorem dX2_untilLevelIs_26 : decode cX2_untilLevelIs 26 = .ok (.iinc 3 1, 3) := by decide +kernel
theorem dX2_untilLevelIs_29 : decode cX2_untilLevelIs 29 = .ok (.goto (-27), 3) := by decide +kernel
theorem dX2_untilLevelIs_32 : decode cX2_untilLevelIs 32 = .ok (.iload_n 3, 1) := by decide +kernel
theorem dX2_untilLevelIs_33 : decode cX2_untilLevelIs 33 = .ok (.ireturn, 1) := by decide +kernel
theorem dX2_worstHour_0 : decode cX2_worstHour 0 = .ok (.iconst (-1), 1) := by decide +kernel
theorem dX2_worstHour_1 : decode cX2_worstHour 1 = .ok (.istore_n 3, 1) := by decide +kernel
theorem dX2_worstHour_2 : decode cX2_worstHour 2 = .ok (.iconst 0, 1) := by decide +kernel
theorem dX2_worstHour_3 : decode cX2_worstHour 3 = .ok (.istore 4, 2) := by decide +kernel
theorem dX2_worstHour_5 : decode cX2_worstHour 5 = .ok (.iconst 0, 1) := by decide +kernel
theorem dX2_worstHour_6 : decode cX2_worstHour 6 = .ok (.istore 5, 2) := by decide +kernel
theorem dX2_worstHour_8 : decode cX2_worstHour 8 = .ok (.iload 5, 2) := by decide +kernel
theorem dX2_worstHour_10 : decode cX2_worstHour 10 = .ok (.iload_n 2, 1) := by decide +kernel
theorem dX2_worstHour_11 : decode cX2_worstHour 11 = .ok (.if_icmp .gt 38, 3) := by decide +kernel
theorem dX2_worstHour_14 : decode cX2_worstHour 14 = .ok (.aload_n 0, 1) := by decide +kernel
theorem dX2_worstHour_15 : decode cX2_worstHour 15 = .ok (.aload_n 1, 1) := by decide +kernel
theorem dX2_worstHour_16 : decode cX2_worstHour 16 = .ok (.aload_n 1, 1) := by decide +kernel
theorem dX2_worstHour_17 : decode cX2_worstHour 17 = .ok (.getfield 50, 3) := by decide +kernel
theorem dX2_worstHour_20 : decode cX2_worstHour 20 = .ok (.iload 5, 2) := by decide +kernel
theorem dX2_worstHour_22 : decode cX2_worstHour 22 = .ok (.invokevirtual 53, 3) := by decide +kernel
theorem dX2_worstHour_25 : decode cX2_worstHour 25 = .ok (.invokevirtual 61, 3) := by decide +kernel
theorem dX2_worstHour_28 : decode cX2_worstHour 28 = .ok (.istore 6, 2) := by decide +kernel
theorem dX2_worstHour_30 : decode cX2_worstHour 30 = .ok (.iload 6, 2) := by decide +kernel
theorem dX2_worstHour_32 : decode cX2_worstHour 32 = .ok (.iload_n 3, 1) := by decide +kernel
theorem dX2_worstHour_33 : decode cX2_worstHour 33 = .ok (.if_icmp .le 10, 3) := by decide +kernel
theorem dX2_worstHour_36 : decode cX2_worstHour 36 = .ok (.iload 6, 2) := by decide +kernel
theorem dX2_worstHour_38 : decode cX2_worstHour 38 = .ok (.istore_n 3, 1) := by decide +kernel
theorem dX2_worstHour_39 : decode cX2_worstHour 39 = .ok (.iload 5, 2) := by decide +kernel
theorem dX2_worstHour_41 : decode cX2_worstHour 41 = .ok (.istore 4, 2) := by decide +kernel
theorem dX2_worstHour_43 : decode cX2_worstHour 43 = .ok (.iinc 5 1, 3) := by decide +kernel
theorem dX2_worstHour_46 : decode cX2_worstHour 46 = .ok (.goto (-38), 3) := by decide +kernel
theorem dX2_worstHour_49 : decode cX2_worstHour 49 = .ok (.iload 4, 2) := by decide +kernel
theorem dX2_worstHour_51 : decode cX2_worstHour 51 = .ok (.ireturn, 1) := by decide +kernel
theorem dX2_awryIf_0 : decode cX2_awryIf 0 = .ok (.aload_n 0, 1) := by decide +kernel
theorem dX2_awryIf_1 : decode cX2_awryIf 1 = .ok (.getfield 12, 3) := by decide +kernel
theorem dX2_awryIf_4 : decode cX2_awryIf 4 = .ok (.aload_n 1, 1) := by decide +kernel
theorem dX2_awryIf_5 : decode cX2_awryIf 5 = .ok (.getfield 50, 3) := by decide +kernel
theorem dX2_awryIf_8 : decode cX2_awryIf 8 = .ok (.invokevirtual 42, 3) := by decide +kernel
theorem dX2_awryIf_11 : decode cX2_awryIf 11 = .ok (.aload_n 1, 1) := by decide +kernel
theorem dX2_awryIf_12 : decode cX2_awryIf 12 = .ok (.iload_n 2, 1) := by decide +kernel
theorem dX2_awryIf_13 : decode cX2_awryIf 13 = .ok (.aload_n 0, 1) := by decide +kernel
theorem dX2_awryIf_14 : decode cX2_awryIf 14 = .ok (.getfield 12, 3) := by decide +kernel
theorem dX2_awryIf_17 : decode cX2_awryIf 17 = .ok (.invokevirtual 65, 3) := by decide +kernel
theorem dX2_awryIf_20 : decode cX2_awryIf 20 = .ok (.aload_n 0, 1) := by decide +kernel
theorem dX2_awryIf_21 : decode cX2_awryIf 21 = .ok (.getfield 12, 3) := by decide +kernel
theorem dX2_awryIf_24 : decode cX2_awryIf 24 = .ok (.invokevirtual 61, 3) := by decide +kernel
theorem dX2_awryIf_27 : decode cX2_awryIf 27 = .ok (.ireturn, 1) := by decide +kernel
theorem dX2_bestDeed_0 : decode cX2_bestDeed 0 = .ok (.ldc 69, 2) := by decide +kernel
theorem dX2_bestDeed_2 : decode cX2_bestDeed 2 = .ok (.istore_n 2, 1) := by decide +kernel
theorem dX2_bestDeed_3 : decode cX2_bestDeed 3 = .ok (.iconst 0, 1) := by decide +kernel
theorem dX2_bestDeed_4 : decode cX2_bestDeed 4 = .ok (.istore_n 3, 1) := by decide +kernel
theorem dX2_bestDeed_5 : decode cX2_bestDeed 5 = .ok (.iconst 0, 1) := by decide +kernel
theorem dX2_bestDeed_6 : decode cX2_bestDeed 6 = .ok (.istore 4, 2) := by decide +kernel
theorem dX2_bestDeed_8 : decode cX2_bestDeed 8 = .ok (.iload 4, 2) := by decide +kernel
theorem dX2_bestDeed_10 : decode cX2_bestDeed 10 = .ok (.aload_n 1, 1) := by decide +kernel
theorem dX2_bestDeed_11 : decode cX2_bestDeed 11 = .ok (.getfield 70, 3) := by decide +kernel
theorem dX2_bestDeed_14 : decode cX2_bestDeed 14 = .ok (.if_icmp .ge 48, 3) := by decide +kernel
theorem dX2_bestDeed_17 : decode cX2_bestDeed 17 = .ok (.aload_n 1, 1) := by decide +kernel
theorem dX2_bestDeed_18 : decode cX2_bestDeed 18 = .ok (.iload 4, 2) := by decide +kernel
theorem dX2_bestDeed_20 : decode cX2_bestDeed 20 = .ok (.invokevirtual 74, 3) := by decide +kernel
theorem dX2_bestDeed_23 : decode cX2_bestDeed 23 = .ok (.ifCond .eq 6, 3) := by decide +kernel
theorem dX2_bestDeed_26 : decode cX2_bestDeed 26 = .ok (.goto 30, 3) := by decide +kernel
theorem dX2_bestDeed_29 : decode cX2_bestDeed 29 = .ok (.aload_n 0, 1) := by decide +kernel
theorem dX2_bestDeed_30 : decode cX2_bestDeed 30 = .ok (.aload_n 1, 1) := by decide +kernel
theorem dX2_bestDeed_31 : decode cX2_bestDeed 31 = .ok (.iload 4, 2) := by decide +kernel
theorem dX2_bestDeed_33 : decode cX2_bestDeed 33 = .ok (.invokevirtual 78, 3) := by decide +kernel
theorem dX2_bestDeed_36 : decode cX2_bestDeed 36 = .ok (.istore 5, 2) := by decide +kernel
theorem dX2_bestDeed_38 : decode cX2_bestDeed 38 = .ok (.iload_n 2, 1) := by decide +kernel
theorem dX2_bestDeed_39 : decode cX2_bestDeed 39 = .ok (.ldc 69, 2) := by decide +kernel
theorem dX2_bestDeed_41 : decode cX2_bestDeed 41 = .ok (.if_icmp .eq 9, 3) := by decide +kernel
theorem dX2_bestDeed_44 : decode cX2_bestDeed 44 = .ok (.iload 5, 2) := by decide +kernel
theorem dX2_bestDeed_46 : decode cX2_bestDeed 46 = .ok (.iload_n 3, 1) := by decide +kernel
theorem dX2_bestDeed_47 : decode cX2_bestDeed 47 = .ok (.if_icmp .ge 9, 3) := by decide +kernel
theorem dX2_bestDeed_50 : decode cX2_bestDeed 50 = .ok (.iload 5, 2) := by decide +kernel
theorem dX2_bestDeed_52 : decode cX2_bestDeed 52 = .ok (.istore_n 3, 1) := by decide +kernel
theorem dX2_bestDeed_53 : decode cX2_bestDeed 53 = .ok (.iload 4, 2) := by decide +kernel
theorem dX2_bestDeed_55 : decode cX2_bestDeed 55 = .ok (.istore_n 2, 1) := by decide +kernel
theorem dX2_bestDeed_56 : decode cX2_bestDeed 56 = .ok (.iinc 4 1, 3) := by decide +kernel
theorem dX2_bestDeed_59 : decode cX2_bestDeed 59 = .ok (.goto (-51), 3) := by decide +kernel
theorem dX2_bestDeed_62 : decode cX2_bestDeed 62 = .ok (.iload_n 2, 1) := by decide +kernel
theorem dX2_bestDeed_63 : decode cX2_bestDeed 63 = .ok (.ireturn, 1) := by decide +kernel
theorem dX2_planLength_0 : decode cX2_planLength 0 = .ok (.aload_n 1, 1) := by decide +kernel
theorem dX2_planLength_1 : decode cX2_planLength 1 = .ok (.invokevirtual 82, 3) := by decide +kernel
theorem dX2_planLength_4 : decode cX2_planLength 4 = .ok (.istore_n 3, 1) := by decide +kernel
theorem dX2_planLength_5 : decode cX2_planLength 5 = .ok (.aload_n 1, 1) := by decide +kernel
theorem dX2_planLength_6 : decode cX2_planLength 6 = .ok (.iload_n 2, 1) := by decide +kernel
theorem dX2_planLength_7 : decode cX2_planLength 7 = .ok (.invokevirtual 32, 3) := by decide +kernel
theorem dX2_planLength_10 : decode cX2_planLength 10 = .ok (.istore 4, 2) := by decide +kernel
theorem dX2_planLength_12 : decode cX2_planLength 12 = .ok (.aload_n 0, 1) := by decide +kernel
theorem dX2_planLength_13 : decode cX2_planLength 13 = .ok (.getfield 28, 3) := by decide +kernel
theorem dX2_planLength_16 : decode cX2_planLength 16 = .ok (.iconst 0, 1) := by decide +kernel
theorem dX2_planLength_17 : decode cX2_planLength 17 = .ok (.aaload, 1) := by decide +kernel
theorem dX2_planLength_18 : decode cX2_planLength 18 = .ok (.aload_n 1, 1) := by decide +kernel
theorem dX2_planLength_19 : decode cX2_planLength 19 = .ok (.getfield 50, 3) := by decide +kernel
theorem dX2_planLength_22 : decode cX2_planLength 22 = .ok (.invokevirtual 42, 3) := by decide +kernel
theorem dX2_planLength_25 : decode cX2_planLength 25 = .ok (.iconst 0, 1) := by decide +kernel
theorem dX2_planLength_26 : decode cX2_planLength 26 = .ok (.istore 5, 2) := by decide +kernel
theorem dX2_planLength_28 : decode cX2_planLength 28 = .ok (.iload 5, 2) := by decide +kernel
theorem dX2_planLength_30 : decode cX2_planLength 30 = .ok (.iload_n 3, 1) := by decide +kernel
theorem dX2_planLength_31 : decode cX2_planLength 31 = .ok (.if_icmp .gt 29, 3) := by decide +kernel
theorem dX2_planLength_34 : decode cX2_planLength 34 = .ok (.aload_n 0, 1) := by decide +kernel
theorem dX2_planLength_35 : decode cX2_planLength 35 = .ok (.aload_n 1, 1) := by decide +kernel
theorem dX2_planLength_36 : decode cX2_planLength 36 = .ok (.iconst 0, 1) := by decide +kernel
theorem dX2_planLength_37 : decode cX2_planLength 37 = .ok (.iload 5, 2) := by decide +kernel
theorem dX2_planLength_39 : decode cX2_planLength 39 = .ok (.aload_n 1, 1) := by decide +kernel
theorem dX2_planLength_40 : decode cX2_planLength 40 = .ok (.getfield 85, 3) := by decide +kernel
theorem dX2_planLength_43 : decode cX2_planLength 43 = .ok (.iload 4, 2) := by decide +kernel
theorem dX2_planLength_45 : decode cX2_planLength 45 = .ok (.invokevirtual 88, 3) := by decide +kernel
theorem dX2_planLength_48 : decode cX2_planLength 48 = .ok (.ifCond .eq 6, 3) := by decide +kernel
theorem dX2_planLength_51 : decode cX2_planLength 51 = .ok (.iload 5, 2) := by decide +kernel
theorem dX2_planLength_53 : decode cX2_planLength 53 = .ok (.ireturn, 1) := by decide +kernel
theorem dX2_planLength_54 : decode cX2_planLength 54 = .ok (.iinc 5 1, 3) := by decide +kernel
theorem dX2_planLength_57 : decode cX2_planLength 57 = .ok (.goto (-29), 3) := by decide +kernel
theorem dX2_planLength_60 : decode cX2_planLength 60 = .ok (.ldc 69, 2) := by decide +kernel
theorem dX2_planLength_62 : decode cX2_planLength 62 = .ok (.ireturn, 1) := by decide +kernel
theorem dX2_findRow_0 : decode cX2_findRow 0 = .ok (.iload_n 2, 1) := by decide +kernel
theorem dX2_findRow_1 : decode cX2_findRow 1 = .ok (.iload_n 3, 1) := by decide +kernel
theorem dX2_findRow_2 : decode cX2_findRow 2 = .ok (.if_icmp .ne 20, 3) := by decide +kernel
theorem dX2_findRow_5 : decode cX2_findRow 5 = .ok (.aload_n 1, 1) := by decide +kernel
theorem dX2_findRow_6 : decode cX2_findRow 6 = .ok (.aload_n 0, 1) := by decide +kernel
theorem dX2_findRow_7 : decode cX2_findRow 7 = .ok (.aload_n 0, 1) := by decide +kernel
theorem dX2_findRow_8 : decode cX2_findRow 8 = .ok (.getfield 28, 3) := by decide +kernel
theorem dX2_findRow_11 : decode cX2_findRow 11 = .ok (.iload_n 2, 1) := by decide +kernel
theorem dX2_findRow_12 : decode cX2_findRow 12 = .ok (.aaload, 1) := by decide +kernel
theorem dX2_findRow_13 : decode cX2_findRow 13 = .ok (.iload 5, 2) := by decide +kernel
theorem dX2_findRow_15 : decode cX2_findRow 15 = .ok (.invokevirtual 38, 3) := by decide +kernel
theorem dX2_findRow_18 : decode cX2_findRow 18 = .ok (.invokevirtual 57, 3) := by decide +kernel
theorem dX2_findRow_21 : decode cX2_findRow 21 = .ok (.ireturn, 1) := by decide +kernel
theorem dX2_findRow_22 : decode cX2_findRow 22 = .ok (.iload_n 2, 1) := by decide +kernel
theorem dX2_findRow_23 : decode cX2_findRow 23 = .ok (.iconst 1, 1) := by decide +kernel
theorem dX2_findRow_24 : decode cX2_findRow 24 = .ok (.iadd, 1) := by decide +kernel
theorem dX2_findRow_25 : decode cX2_findRow 25 = .ok (.aload_n 0, 1) := by decide +kernel
theorem dX2_findRow_26 : decode cX2_findRow 26 = .ok (.getfield 28, 3) := by decide +kernel
theorem dX2_findRow_29 : decode cX2_findRow 29 = .ok (.arraylength, 1) := by decide +kernel
theorem dX2_findRow_30 : decode cX2_findRow 30 = .ok (.if_icmp .ge 12, 3) := by decide +kernel
theorem dX2_findRow_33 : decode cX2_findRow 33 = .ok (.iload_n 2, 1) := by decide +kernel
theorem dX2_findRow_34 : decode cX2_findRow 34 = .ok (.aload_n 0, 1) := by decide +kernel
theorem dX2_findRow_35 : decode cX2_findRow 35 = .ok (.getfield 18, 3) := by decide +kernel
theorem dX2_findRow_38 : decode cX2_findRow 38 = .ok (.arraylength, 1) := by decide +kernel
theorem dX2_findRow_39 : decode cX2_findRow 39 = .ok (.if_icmp .lt 5, 3) := by decide +kernel
theorem dX2_findRow_42 : decode cX2_findRow 42 = .ok (.iconst 0, 1) := by decide +kernel
theorem dX2_findRow_43 : decode cX2_findRow 43 = .ok (.ireturn, 1) := by decide +kernel
theorem dX2_findRow_44 : decode cX2_findRow 44 = .ok (.iconst 0, 1) := by decide +kernel
theorem dX2_findRow_45 : decode cX2_findRow 45 = .ok (.istore 6, 2) := by decide +kernel
theorem dX2_findRow_47 : decode cX2_findRow 47 = .ok (.iload 6, 2) := by decide +kernel
theorem dX2_findRow_49 : decode cX2_findRow 49 = .ok (.aload_n 1, 1) := by decide +kernel
theorem dX2_findRow_50 : decode cX2_findRow 50 = .ok (.getfield 70, 3) := by decide +kernel
theorem dX2_findRow_53 : decode cX2_findRow 53 = .ok (.if_icmp .ge 96, 3) := by decide +kernel
theorem dX2_findRow_56 : decode cX2_findRow 56 = .ok (.iload 4, 2) := by decide +kernel
theorem dX2_findRow_58 : decode cX2_findRow 58 = .ok (.iload 6, 2) := by decide +kernel
theorem dX2_findRow_60 : decode cX2_findRow 60 = .ok (.ishr, 1) := by decide +kernel
theorem dX2_findRow_61 : decode cX2_findRow 61 = .ok (.iconst 1, 1) := by decide +kernel
theorem dX2_findRow_62 : decode cX2_findRow 62 = .ok (.iand, 1) := by decide +kernel
theorem dX2_findRow_63 : decode cX2_findRow 63 = .ok (.iconst 1, 1) := by decide +kernel
theorem dX2_findRow_64 : decode cX2_findRow 64 = .ok (.if_icmp .eq 79, 3) := by decide +kernel
theorem dX2_findRow_67 : decode cX2_findRow 67 = .ok (.aload_n 0, 1) := by decide +kernel
theorem dX2_findRow_68 : decode cX2_findRow 68 = .ok (.aload_n 1, 1) := by decide +kernel
theorem dX2_findRow_69 : decode cX2_findRow 69 = .ok (.iload_n 2, 1) := by decide +kernel
theorem dX2_findRow_70 : decode cX2_findRow 70 = .ok (.iload 6, 2) := by decide +kernel
theorem dX2_findRow_72 : decode cX2_findRow 72 = .ok (.invokevirtual 92, 3) := by decide +kernel
theorem dX2_findRow_75 : decode cX2_findRow 75 = .ok (.ifCond .eq 6, 3) := by decide +kernel
theorem dX2_findRow_78 : decode cX2_findRow 78 = .ok (.goto 65, 3) := by decide +kernel
theorem dX2_findRow_81 : decode cX2_findRow 81 = .ok (.aload_n 0, 1) := by decide +kernel
theorem dX2_findRow_82 : decode cX2_findRow 82 = .ok (.getfield 18, 3) := by decide +kernel
theorem dX2_findRow_85 : decode cX2_findRow 85 = .ok (.iload_n 2, 1) := by decide +kernel
theorem dX2_findRow_86 : decode cX2_findRow 86 = .ok (.iload 6, 2) := by decide +kernel
theorem dX2_findRow_88 : decode cX2_findRow 88 = .ok (.iastore, 1) := by decide +kernel
theorem dX2_findRow_89 : decode cX2_findRow 89 = .ok (.aload_n 0, 1) := by decide +kernel
theorem dX2_findRow_90 : decode cX2_findRow 90 = .ok (.getfield 28, 3) := by decide +kernel
theorem dX2_findRow_93 : decode cX2_findRow 93 = .ok (.iload_n 2, 1) := by decide +kernel
theorem dX2_findRow_94 : decode cX2_findRow 94 = .ok (.iconst 1, 1) := by decide +kernel
theorem dX2_findRow_95 : decode cX2_findRow 95 = .ok (.iadd, 1) := by decide +kernel
theorem dX2_findRow_96 : decode cX2_findRow 96 = .ok (.aaload, 1) := by decide +kernel
theorem dX2_findRow_97 : decode cX2_findRow 97 = .ok (.aload_n 0, 1) := by decide +kernel
theorem dX2_findRow_98 : decode cX2_findRow 98 = .ok (.getfield 28, 3) := by decide +kernel
theorem dX2_findRow_101 : decode cX2_findRow 101 = .ok (.iload_n 2, 1) := by decide +kernel
theorem dX2_findRow_102 : decode cX2_findRow 102 = .ok (.aaload, 1) := by decide +kernel
theorem dX2_findRow_103 : decode cX2_findRow 103 = .ok (.invokevirtual 42, 3) := by decide +kernel
theorem dX2_findRow_106 : decode cX2_findRow 106 = .ok (.aload_n 1, 1) := by decide +kernel
theorem dX2_findRow_107 : decode cX2_findRow 107 = .ok (.iload 6, 2) := by decide +kernel
theorem dX2_findRow_109 : decode cX2_findRow 109 = .ok (.aload_n 0, 1) := by decide +kernel
theorem dX2_findRow_110 : decode cX2_findRow 110 = .ok (.getfield 28, 3) := by decide +kernel
theorem dX2_findRow_113 : decode cX2_findRow 113 = .ok (.iload_n 2, 1) := by decide +kernel
theorem dX2_findRow_114 : decode cX2_findRow 114 = .ok (.iconst 1, 1) := by decide +kernel
theorem dX2_findRow_115 : decode cX2_findRow 115 = .ok (.iadd, 1) := by decide +kernel
theorem dX2_findRow_116 : decode cX2_findRow 116 = .ok (.aaload, 1) := by decide +kernel
theorem dX2_findRow_117 : decode cX2_findRow 117 = .ok (.invokevirtual 65, 3) := by decide +kernel
theorem dX2_findRow_120 : decode cX2_findRow 120 = .ok (.aload_n 0, 1) := by decide +kernel
theorem dX2_findRow_121 : decode cX2_findRow 121 = .ok (.aload_n 1, 1) := by decide +kernel
theorem dX2_findRow_122 : decode cX2_findRow 122 = .ok (.iload_n 2, 1) := by decide +kernel
theorem dX2_findRow_123 : decode cX2_findRow 123 = .ok (.iconst 1, 1) := by decide +kernel
theorem dX2_findRow_124 : decode cX2_findRow 124 = .ok (.iadd, 1) := by decide +kernel
theorem dX2_findRow_125 : decode cX2_findRow 125 = .ok (.iload_n 3, 1) := by decide +kernel
theorem dX2_findRow_126 : decode cX2_findRow 126 = .ok (.iload 4, 2) := by decide +kernel
theorem dX2_findRow_128 : decode cX2_findRow 128 = .ok (.iconst 1, 1) := by decide +kernel
theorem dX2_findRow_129 : decode cX2_findRow 129 = .ok (.iload 6, 2) := by decide +kernel
theorem dX2_findRow_131 : decode cX2_findRow 131 = .ok (.ishl, 1) := by decide +kernel
theorem dX2_findRow_132 : decode cX2_findRow 132 = .ok (.ior, 1) := by decide +kernel
theorem dX2_findRow_133 : decode cX2_findRow 133 = .ok (.iload 5, 2) := by decide +kernel
theorem dX2_findRow_135 : decode cX2_findRow 135 = .ok (.invokevirtual 88, 3) := by decide +kernel
theorem dX2_findRow_138 : decode cX2_findRow 138 = .ok (.ifCond .eq 5, 3) := by decide +kernel
theorem dX2_findRow_141 : decode cX2_findRow 141 = .ok (.iconst 1, 1) := by decide +kernel
theorem dX2_findRow_142 : decode cX2_findRow 142 = .ok (.ireturn, 1) := by decide +kernel
theorem dX2_findRow_143 : decode cX2_findRow 143 = .ok (.iinc 6 1, 3) := by decide +kernel
theorem dX2_findRow_146 : decode cX2_findRow 146 = .ok (.goto (-99), 3) := by decide +kernel
theorem dX2_findRow_149 : decode cX2_findRow 149 = .ok (.iconst 0, 1) := by decide +kernel
theorem dX2_findRow_150 : decode cX2_findRow 150 = .ok (.ireturn, 1) := by decide +kernel
theorem dX2_isOutOfTurn_0 : decode cX2_isOutOfTurn 0 = .ok (.iload_n 2, 1) := by decide +kernel
theorem dX2_isOutOfTurn_1 : decode cX2_isOutOfTurn 1 = .ok (.ifCond .eq 15, 3) := by decide +kernel
theorem dX2_isOutOfTurn_4 : decode cX2_isOutOfTurn 4 = .ok (.aload_n 0, 1) := by decide +kernel
theorem dX2_isOutOfTurn_5 : decode cX2_isOutOfTurn 5 = .ok (.getfield 18, 3) := by decide +kernel
theorem dX2_isOutOfTurn_8 : decode cX2_isOutOfTurn 8 = .ok (.iload_n 2, 1) := by decide +kernel
theorem dX2_isOutOfTurn_9 : decode cX2_isOutOfTurn 9 = .ok (.iconst 1, 1) := by decide +kernel
theorem dX2_isOutOfTurn_10 : decode cX2_isOutOfTurn 10 = .ok (.isub, 1) := by decide +kernel
theorem dX2_isOutOfTurn_11 : decode cX2_isOutOfTurn 11 = .ok (.iaload, 1) := by decide +kernel
theorem dX2_isOutOfTurn_12 : decode cX2_isOutOfTurn 12 = .ok (.iload_n 3, 1) := by decide +kernel
theorem dX2_isOutOfTurn_13 : decode cX2_isOutOfTurn 13 = .ok (.if_icmp .ge 5, 3) := by decide +kernel
theorem dX2_isOutOfTurn_16 : decode cX2_isOutOfTurn 16 = .ok (.iconst 0, 1) := by decide +kernel
theorem dX2_isOutOfTurn_17 : decode cX2_isOutOfTurn 17 = .ok (.ireturn, 1) := by decide +kernel
theorem dX2_isOutOfTurn_18 : decode cX2_isOutOfTurn 18 = .ok (.aload_n 1, 1) := by decide +kernel
theorem dX2_isOutOfTurn_19 : decode cX2_isOutOfTurn 19 = .ok (.getfield 96, 3) := by decide +kernel
theorem dX2_isOutOfTurn_22 : decode cX2_isOutOfTurn 22 = .ok (.aload_n 0, 1) := by decide +kernel
theorem dX2_isOutOfTurn_23 : decode cX2_isOutOfTurn 23 = .ok (.getfield 18, 3) := by decide +kernel
theorem dX2_isOutOfTurn_26 : decode cX2_isOutOfTurn 26 = .ok (.iload_n 2, 1) := by decide +kernel
theorem dX2_isOutOfTurn_27 : decode cX2_isOutOfTurn 27 = .ok (.iconst 1, 1) := by decide +kernel
theorem dX2_isOutOfTurn_28 : decode cX2_isOutOfTurn 28 = .ok (.isub, 1) := by decide +kernel
theorem dX2_isOutOfTurn_29 : decode cX2_isOutOfTurn 29 = .ok (.iaload, 1) := by decide +kernel
theorem dX2_isOutOfTurn_30 : decode cX2_isOutOfTurn 30 = .ok (.iaload, 1) := by decide +kernel
theorem dX2_isOutOfTurn_31 : decode cX2_isOutOfTurn 31 = .ok (.iconst 3, 1) := by decide +kernel
theorem dX2_isOutOfTurn_32 : decode cX2_isOutOfTurn 32 = .ok (.if_icmp .gt 17, 3) := by decide +kernel
theorem dX2_isOutOfTurn_35 : decode cX2_isOutOfTurn 35 = .ok (.aload_n 1, 1) := by decide +kernel
theorem dX2_isOutOfTurn_36 : decode cX2_isOutOfTurn 36 = .ok (.getfield 96, 3) := by decide +kernel
theorem dX2_isOutOfTurn_39 : decode cX2_isOutOfTurn 39 = .ok (.iload_n 3, 1) := by decide +kernel
theorem dX2_isOutOfTurn_40 : decode cX2_isOutOfTurn 40 = .ok (.iaload, 1) := by decide +kernel
theorem dX2_isOutOfTurn_41 : decode cX2_isOutOfTurn 41 = .ok (.iconst 3, 1) := by decide +kernel
theorem dX2_isOutOfTurn_42 : decode cX2_isOutOfTurn 42 = .ok (.if_icmp .gt 7, 3) := by decide +kernel
theorem dX2_isOutOfTurn_45 : decode cX2_isOutOfTurn 45 = .ok (.iconst 1, 1) := by decide +kernel
theorem dX2_isOutOfTurn_46 : decode cX2_isOutOfTurn 46 = .ok (.goto 4, 3) := by decide +kernel
theorem dX2_isOutOfTurn_49 : decode cX2_isOutOfTurn 49 = .ok (.iconst 0, 1) := by decide +kernel
theorem dX2_isOutOfTurn_50 : decode cX2_isOutOfTurn 50 = .ok (.ireturn, 1) := by decide +kernel
theorem dX2_fewestBoards_0 : decode cX2_fewestBoards 0 = .ok (.aload_n 1, 1) := by decide +kernel
theorem dX2_fewestBoards_1 : decode cX2_fewestBoards 1 = .ok (.iload_n 2, 1) := by decide +kernel
theorem dX2_fewestBoards_2 : decode cX2_fewestBoards 2 = .ok (.invokevirtual 32, 3) := by decide +kernel
theorem dX2_fewestBoards_5 : decode cX2_fewestBoards 5 = .ok (.istore_n 3, 1) := by decide +kernel
theorem dX2_fewestBoards_6 : decode cX2_fewestBoards 6 = .ok (.ldc 69, 2) := by decide +kernel
theorem dX2_fewestBoards_8 : decode cX2_fewestBoards 8 = .ok (.istore 4, 2) := by decide +kernel
theorem dX2_fewestBoards_10 : decode cX2_fewestBoards 10 = .ok (.iconst 0, 1) := by decide +kernel
theorem dX2_fewestBoards_11 : decode cX2_fewestBoards 11 = .ok (.istore 5, 2) := by decide +kernel
theorem dX2_fewestBoards_13 : decode cX2_fewestBoards 13 = .ok (.iload 5, 2) := by decide +kernel
theorem dX2_fewestBoards_15 : decode cX2_fewestBoards 15 = .ok (.bipush 64, 2) := by decide +kernel
theorem dX2_fewestBoards_17 : decode cX2_fewestBoards 17 = .ok (.if_icmp .ge 165, 3) := by decide +kernel
theorem dX2_fewestBoards_20 : decode cX2_fewestBoards 20 = .ok (.iload 5, 2) := by decide +kernel
theorem dX2_fewestBoards_22 : decode cX2_fewestBoards 22 = .ok (.iconst 4, 1) := by decide +kernel
theorem dX2_fewestBoards_23 : decode cX2_fewestBoards 23 = .ok (.ishr, 1) := by decide +kernel
theorem dX2_fewestBoards_24 : decode cX2_fewestBoards 24 = .ok (.iconst 3, 1) := by decide +kernel
theorem dX2_fewestBoards_25 : decode cX2_fewestBoards 25 = .ok (.iand, 1) := by decide +kernel
theorem dX2_fewestBoards_26 : decode cX2_fewestBoards 26 = .ok (.istore 6, 2) := by decide +kernel
theorem dX2_fewestBoards_28 : decode cX2_fewestBoards 28 = .ok (.iload 5, 2) := by decide +kernel
theorem dX2_fewestBoards_30 : decode cX2_fewestBoards 30 = .ok (.iconst 2, 1) := by decide +kernel
theorem dX2_fewestBoards_31 : decode cX2_fewestBoards 31 = .ok (.ishr, 1) := by decide +kernel
theorem dX2_fewestBoards_32 : decode cX2_fewestBoards 32 = .ok (.iconst 3, 1) := by decide +kernel
theorem dX2_fewestBoards_33 : decode cX2_fewestBoards 33 = .ok (.iand, 1) := by decide +kernel
theorem dX2_fewestBoards_34 : decode cX2_fewestBoards 34 = .ok (.istore 7, 2) := by decide +kernel
theorem dX2_fewestBoards_36 : decode cX2_fewestBoards 36 = .ok (.iload 5, 2) := by decide +kernel
theorem dX2_fewestBoards_38 : decode cX2_fewestBoards 38 = .ok (.iconst 3, 1) := by decide +kernel
theorem dX2_fewestBoards_39 : decode cX2_fewestBoards 39 = .ok (.iand, 1) := by decide +kernel
theorem dX2_fewestBoards_40 : decode cX2_fewestBoards 40 = .ok (.istore 8, 2) := by decide +kernel
theorem dX2_fewestBoards_42 : decode cX2_fewestBoards 42 = .ok (.aload_n 1, 1) := by decide +kernel
theorem dX2_fewestBoards_43 : decode cX2_fewestBoards 43 = .ok (.getfield 50, 3) := by decide +kernel
theorem dX2_fewestBoards_46 : decode cX2_fewestBoards 46 = .ok (.getfield 99, 3) := by decide +kernel
theorem dX2_fewestBoards_49 : decode cX2_fewestBoards 49 = .ok (.astore 9, 2) := by decide +kernel
theorem dX2_fewestBoards_51 : decode cX2_fewestBoards 51 = .ok (.iload 6, 2) := by decide +kernel
theorem dX2_fewestBoards_53 : decode cX2_fewestBoards 53 = .ok (.aload 9, 2) := by decide +kernel
theorem dX2_fewestBoards_55 : decode cX2_fewestBoards 55 = .ok (.iconst 0, 1) := by decide +kernel
theorem dX2_fewestBoards_56 : decode cX2_fewestBoards 56 = .ok (.iaload, 1) := by decide +kernel
theorem dX2_fewestBoards_57 : decode cX2_fewestBoards 57 = .ok (.if_icmp .gt 119, 3) := by decide +kernel
theorem dX2_fewestBoards_60 : decode cX2_fewestBoards 60 = .ok (.iload 7, 2) := by decide +kernel
theorem dX2_fewestBoards_62 : decode cX2_fewestBoards 62 = .ok (.aload 9, 2) := by decide +kernel
theorem dX2_fewestBoards_64 : decode cX2_fewestBoards 64 = .ok (.iconst 1, 1) := by decide +kernel
theorem dX2_fewestBoards_65 : decode cX2_fewestBoards 65 = .ok (.iaload, 1) := by decide +kernel
theorem dX2_fewestBoards_66 : decode cX2_fewestBoards 66 = .ok (.if_icmp .gt 110, 3) := by decide +kernel
theorem dX2_fewestBoards_69 : decode cX2_fewestBoards 69 = .ok (.iload 8, 2) := by decide +kernel
theorem dX2_fewestBoards_71 : decode cX2_fewestBoards 71 = .ok (.aload 9, 2) := by decide +kernel
theorem dX2_fewestBoards_73 : decode cX2_fewestBoards 73 = .ok (.iconst 2, 1) := by decide +kernel
theorem dX2_fewestBoards_74 : decode cX2_fewestBoards 74 = .ok (.iaload, 1) := by decide +kernel
theorem dX2_fewestBoards_75 : decode cX2_fewestBoards 75 = .ok (.if_icmp .le 6, 3) := by decide +kernel
theorem dX2_fewestBoards_78 : decode cX2_fewestBoards 78 = .ok (.goto 98, 3) := by decide +kernel
theorem dX2_fewestBoards_81 : decode cX2_fewestBoards 81 = .ok (.iload 4, 2) := by decide +kernel
theorem dX2_fewestBoards_83 : decode cX2_fewestBoards 83 = .ok (.ldc 69, 2) := by decide +kernel
theorem dX2_fewestBoards_85 : decode cX2_fewestBoards 85 = .ok (.if_icmp .eq 19, 3) := by decide +kernel
theorem dX2_fewestBoards_88 : decode cX2_fewestBoards 88 = .ok (.iload 6, 2) := by decide +kernel
theorem dX2_fewestBoards_90 : decode cX2_fewestBoards 90 = .ok (.iload 7, 2) := by decide +kernel
theorem dX2_fewestBoards_92 : decode cX2_fewestBoards 92 = .ok (.iadd, 1) := by decide +kernel
theorem dX2_fewestBoards_93 : decode cX2_fewestBoards 93 = .ok (.iload 8, 2) := by decide +kernel
theorem dX2_fewestBoards_95 : decode cX2_fewestBoards 95 = .ok (.iadd, 1) := by decide +kernel
theorem dX2_fewestBoards_96 : decode cX2_fewestBoards 96 = .ok (.iload 4, 2) := by decide +kernel
theorem dX2_fewestBoards_98 : decode cX2_fewestBoards 98 = .ok (.if_icmp .lt 6, 3) := by decide +kernel
theorem dX2_fewestBoards_101 : decode cX2_fewestBoards 101 = .ok (.goto 75, 3) := by decide +kernel
theorem dX2_fewestBoards_104 : decode cX2_fewestBoards 104 = .ok (.aload_n 0, 1) := by decide +kernel
theorem dX2_fewestBoards_105 : decode cX2_fewestBoards 105 = .ok (.getfield 12, 3) := by decide +kernel
theorem dX2_fewestBoards_108 : decode cX2_fewestBoards 108 = .ok (.aload_n 1, 1) := by decide +kernel
theorem dX2_fewestBoards_109 : decode cX2_fewestBoards 109 = .ok (.getfield 50, 3) := by decide +kernel
theorem dX2_fewestBoards_112 : decode cX2_fewestBoards 112 = .ok (.invokevirtual 42, 3) := by decide +kernel
theorem dX2_fewestBoards_115 : decode cX2_fewestBoards 115 = .ok (.aload_n 0, 1) := by decide +kernel
theorem dX2_fewestBoards_116 : decode cX2_fewestBoards 116 = .ok (.getfield 12, 3) := by decide +kernel
theorem dX2_fewestBoards_119 : decode cX2_fewestBoards 119 = .ok (.iconst 0, 1) := by decide +kernel
theorem dX2_fewestBoards_120 : decode cX2_fewestBoards 120 = .ok (.iload 6, 2) := by decide +kernel
theorem dX2_fewestBoards_122 : decode cX2_fewestBoards 122 = .ok (.ineg, 1) := by decide +kernel
theorem dX2_fewestBoards_123 : decode cX2_fewestBoards 123 = .ok (.invokevirtual 102, 3) := by decide +kernel
theorem dX2_fewestBoards_126 : decode cX2_fewestBoards 126 = .ok (.aload_n 0, 1) := by decide +kernel
theorem dX2_fewestBoards_127 : decode cX2_fewestBoards 127 = .ok (.getfield 12, 3) := by decide +kernel
theorem dX2_fewestBoards_130 : decode cX2_fewestBoards 130 = .ok (.iconst 1, 1) := by decide +kernel
theorem dX2_fewestBoards_131 : decode cX2_fewestBoards 131 = .ok (.iload 7, 2) := by decide +kernel
theorem dX2_fewestBoards_133 : decode cX2_fewestBoards 133 = .ok (.ineg, 1) := by decide +kernel
theorem dX2_fewestBoards_134 : decode cX2_fewestBoards 134 = .ok (.invokevirtual 102, 3) := by decide +kernel
theorem dX2_fewestBoards_137 : decode cX2_fewestBoards 137 = .ok (.aload_n 0, 1) := by decide +kernel
theorem dX2_fewestBoards_138 : decode cX2_fewestBoards 138 = .ok (.getfield 12, 3) := by decide +kernel
theorem dX2_fewestBoards_141 : decode cX2_fewestBoards 141 = .ok (.iconst 2, 1) := by decide +kernel
theorem dX2_fewestBoards_142 : decode cX2_fewestBoards 142 = .ok (.iload 8, 2) := by decide +kernel
theorem dX2_fewestBoards_144 : decode cX2_fewestBoards 144 = .ok (.ineg, 1) := by decide +kernel
theorem dX2_fewestBoards_145 : decode cX2_fewestBoards 145 = .ok (.invokevirtual 102, 3) := by decide +kernel
theorem dX2_fewestBoards_148 : decode cX2_fewestBoards 148 = .ok (.aload_n 1, 1) := by decide +kernel
theorem dX2_fewestBoards_149 : decode cX2_fewestBoards 149 = .ok (.aload_n 0, 1) := by decide +kernel
theorem dX2_fewestBoards_150 : decode cX2_fewestBoards 150 = .ok (.aload_n 0, 1) := by decide +kernel
theorem dX2_fewestBoards_151 : decode cX2_fewestBoards 151 = .ok (.getfield 12, 3) := by decide +kernel
theorem dX2_fewestBoards_154 : decode cX2_fewestBoards 154 = .ok (.iload_n 3, 1) := by decide +kernel
theorem dX2_fewestBoards_155 : decode cX2_fewestBoards 155 = .ok (.invokevirtual 38, 3) := by decide +kernel
theorem dX2_fewestBoards_158 : decode cX2_fewestBoards 158 = .ok (.invokevirtual 57, 3) := by decide +kernel
theorem dX2_fewestBoards_161 : decode cX2_fewestBoards 161 = .ok (.ifCond .eq 15, 3) := by decide +kernel
theorem dX2_fewestBoards_164 : decode cX2_fewestBoards 164 = .ok (.aload_n 0, 1) := by decide +kernel
theorem dX2_fewestBoards_165 : decode cX2_fewestBoards 165 = .ok (.iload 6, 2) := by decide +kernel
theorem dX2_fewestBoards_167 : decode cX2_fewestBoards 167 = .ok (.iload 7, 2) := by decide +kernel
theorem dX2_fewestBoards_169 : decode cX2_fewestBoards 169 = .ok (.iload 8, 2) := by decide +kernel
theorem dX2_fewestBoards_171 : decode cX2_fewestBoards 171 = .ok (.invokevirtual 106, 3) := by decide +kernel
theorem dX2_fewestBoards_174 : decode cX2_fewestBoards 174 = .ok (.istore 4, 2) := by decide +kernel
theorem dX2_fewestBoards_176 : decode cX2_fewestBoards 176 = .ok (.iinc 5 1, 3) := by decide +kernel
theorem dX2_fewestBoards_179 : decode cX2_fewestBoards 179 = .ok (.goto (-166), 3) := by decide +kernel
theorem dX2_fewestBoards_182 : decode cX2_fewestBoards 182 = .ok (.iload 4, 2) := by decide +kernel
theorem dX2_fewestBoards_184 : decode cX2_fewestBoards 184 = .ok (.ireturn, 1) := by decide +kernel
theorem dX2_leastLifting_0 : decode cX2_leastLifting 0 = .ok (.ldc 69, 2) := by decide +kernel
theorem dX2_leastLifting_2 : decode cX2_leastLifting 2 = .ok (.istore_n 2, 1) := by decide +kernel
theorem dX2_leastLifting_3 : decode cX2_leastLifting 3 = .ok (.iconst 0, 1) := by decide +kernel
theorem dX2_leastLifting_4 : decode cX2_leastLifting 4 = .ok (.istore_n 3, 1) := by decide +kernel
theorem dX2_leastLifting_5 : decode cX2_leastLifting 5 = .ok (.iload_n 3, 1) := by decide +kernel
theorem dX2_leastLifting_6 : decode cX2_leastLifting 6 = .ok (.bipush 20, 2) := by decide +kernel
theorem dX2_leastLifting_8 : decode cX2_leastLifting 8 = .ok (.if_icmp .gt 116, 3) := by decide +kernel
theorem dX2_leastLifting_11 : decode cX2_leastLifting 11 = .ok (.iconst 0, 1) := by decide +kernel
theorem dX2_leastLifting_12 : decode cX2_leastLifting 12 = .ok (.istore 4, 2) := by decide +kernel
theorem dX2_leastLifting_14 : decode cX2_leastLifting 14 = .ok (.iload 4, 2) := by decide +kernel
theorem dX2_leastLifting_16 : decode cX2_leastLifting 16 = .ok (.bipush 20, 2) := by decide +kernel
theorem dX2_leastLifting_18 : decode cX2_leastLifting 18 = .ok (.if_icmp .gt 100, 3) := by decide +kernel
theorem dX2_leastLifting_21 : decode cX2_leastLifting 21 = .ok (.aload_n 0, 1) := by decide +kernel
theorem dX2_leastLifting_22 : decode cX2_leastLifting 22 = .ok (.getfield 12, 3) := by decide +kernel
theorem dX2_leastLifting_25 : decode cX2_leastLifting 25 = .ok (.aload_n 1, 1) := by decide +kernel
theorem dX2_leastLifting_26 : decode cX2_leastLifting 26 = .ok (.getfield 50, 3) := by decide +kernel
theorem dX2_leastLifting_29 : decode cX2_leastLifting 29 = .ok (.invokevirtual 42, 3) := by decide +kernel
theorem dX2_leastLifting_32 : decode cX2_leastLifting 32 = .ok (.aload_n 0, 1) := by decide +kernel
theorem dX2_leastLifting_33 : decode cX2_leastLifting 33 = .ok (.getfield 12, 3) := by decide +kernel
theorem dX2_leastLifting_36 : decode cX2_leastLifting 36 = .ok (.iconst 0, 1) := by decide +kernel
theorem dX2_leastLifting_37 : decode cX2_leastLifting 37 = .ok (.iload_n 3, 1) := by decide +kernel
theorem dX2_leastLifting_38 : decode cX2_leastLifting 38 = .ok (.invokevirtual 110, 3) := by decide +kernel
theorem dX2_leastLifting_41 : decode cX2_leastLifting 41 = .ok (.aload_n 0, 1) := by decide +kernel
theorem dX2_leastLifting_42 : decode cX2_leastLifting 42 = .ok (.getfield 12, 3) := by decide +kernel
theorem dX2_leastLifting_45 : decode cX2_leastLifting 45 = .ok (.iconst 1, 1) := by decide +kernel
theorem dX2_leastLifting_46 : decode cX2_leastLifting 46 = .ok (.iload 4, 2) := by decide +kernel
theorem dX2_leastLifting_48 : decode cX2_leastLifting 48 = .ok (.invokevirtual 110, 3) := by decide +kernel
theorem dX2_leastLifting_51 : decode cX2_leastLifting 51 = .ok (.aload_n 0, 1) := by decide +kernel
theorem dX2_leastLifting_52 : decode cX2_leastLifting 52 = .ok (.getfield 12, 3) := by decide +kernel
theorem dX2_leastLifting_55 : decode cX2_leastLifting 55 = .ok (.invokevirtual 113, 3) := by decide +kernel
theorem dX2_leastLifting_58 : decode cX2_leastLifting 58 = .ok (.invokestatic 116, 3) := by decide +kernel
theorem dX2_leastLifting_61 : decode cX2_leastLifting 61 = .ok (.aload_n 1, 1) := by decide +kernel
theorem dX2_leastLifting_62 : decode cX2_leastLifting 62 = .ok (.getfield 121, 3) := by decide +kernel
theorem dX2_leastLifting_65 : decode cX2_leastLifting 65 = .ok (.if_icmp .le 6, 3) := by decide +kernel
theorem dX2_leastLifting_68 : decode cX2_leastLifting 68 = .ok (.goto 44, 3) := by decide +kernel
theorem dX2_leastLifting_71 : decode cX2_leastLifting 71 = .ok (.aload_n 0, 1) := by decide +kernel
theorem dX2_leastLifting_72 : decode cX2_leastLifting 72 = .ok (.aload_n 1, 1) := by decide +kernel
theorem dX2_leastLifting_73 : decode cX2_leastLifting 73 = .ok (.invokevirtual 124, 3) := by decide +kernel
theorem dX2_leastLifting_76 : decode cX2_leastLifting 76 = .ok (.istore 5, 2) := by decide +kernel
theorem dX2_leastLifting_78 : decode cX2_leastLifting 78 = .ok (.iload 5, 2) := by decide +kernel
theorem dX2_leastLifting_80 : decode cX2_leastLifting 80 = .ok (.ldc 69, 2) := by decide +kernel
theorem dX2_leastLifting_82 : decode cX2_leastLifting 82 = .ok (.if_icmp .eq 30, 3) := by decide +kernel
theorem dX2_leastLifting_85 : decode cX2_leastLifting 85 = .ok (.iload_n 2, 1) := by decide +kernel
theorem dX2_leastLifting_86 : decode cX2_leastLifting 86 = .ok (.ldc 69, 2) := by decide +kernel
theorem dX2_leastLifting_88 : decode cX2_leastLifting 88 = .ok (.if_icmp .eq 14, 3) := by decide +kernel
theorem dX2_leastLifting_91 : decode cX2_leastLifting 91 = .ok (.iload_n 3, 1) := by decide +kernel
theorem dX2_leastLifting_92 : decode cX2_leastLifting 92 = .ok (.iload 4, 2) := by decide +kernel
theorem dX2_leastLifting_94 : decode cX2_leastLifting 94 = .ok (.iadd, 1) := by decide +kernel
theorem dX2_leastLifting_95 : decode cX2_leastLifting 95 = .ok (.iload 5, 2) := by decide +kernel
theorem dX2_leastLifting_97 : decode cX2_leastLifting 97 = .ok (.iadd, 1) := by decide +kernel
theorem dX2_leastLifting_98 : decode cX2_leastLifting 98 = .ok (.iload_n 2, 1) := by decide +kernel
theorem dX2_leastLifting_99 : decode cX2_leastLifting 99 = .ok (.if_icmp .ge 13, 3) := by decide +kernel
theorem dX2_leastLifting_102 : decode cX2_leastLifting 102 = .ok (.aload_n 0, 1) := by decide +kernel
theorem dX2_leastLifting_103 : decode cX2_leastLifting 103 = .ok (.iload_n 3, 1) := by decide +kernel
theorem dX2_leastLifting_104 : decode cX2_leastLifting 104 = .ok (.iload 4, 2) := by decide +kernel
theorem dX2_leastLifting_106 : decode cX2_leastLifting 106 = .ok (.iload 5, 2) := by decide +kernel
theorem dX2_leastLifting_108 : decode cX2_leastLifting 108 = .ok (.invokevirtual 106, 3) := by decide +kernel
theorem dX2_leastLifting_111 : decode cX2_leastLifting 111 = .ok (.istore_n 2, 1) := by decide +kernel
theorem dX2_leastLifting_112 : decode cX2_leastLifting 112 = .ok (.iinc 4 1, 3) := by decide +kernel
theorem dX2_leastLifting_115 : decode cX2_leastLifting 115 = .ok (.goto (-101), 3) := by decide +kernel
theorem dX2_leastLifting_118 : decode cX2_leastLifting 118 = .ok (.iinc 3 1, 3) := by decide +kernel
theorem dX2_leastLifting_121 : decode cX2_leastLifting 121 = .ok (.goto (-116), 3) := by decide +kernel
theorem dX2_leastLifting_124 : decode cX2_leastLifting 124 = .ok (.iload_n 2, 1) := by decide +kernel
theorem dX2_leastLifting_125 : decode cX2_leastLifting 125 = .ok (.ireturn, 1) := by decide +kernel
theorem dX2_leastNoseLift_0 : decode cX2_leastNoseLift 0 = .ok (.iconst 0, 1) := by decide +kernel
theorem dX2_leastNoseLift_1 : decode cX2_leastNoseLift 1 = .ok (.istore_n 2, 1) := by decide +kernel
theorem dX2_leastNoseLift_2 : decode cX2_leastNoseLift 2 = .ok (.iload_n 2, 1) := by decide +kernel
theorem dX2_leastNoseLift_3 : decode cX2_leastNoseLift 3 = .ok (.bipush 20, 2) := by decide +kernel
theorem dX2_leastNoseLift_5 : decode cX2_leastNoseLift 5 = .ok (.if_icmp .gt 42, 3) := by decide +kernel
theorem dX2_leastNoseLift_8 : decode cX2_leastNoseLift 8 = .ok (.aload_n 0, 1) := by decide +kernel
theorem dX2_leastNoseLift_9 : decode cX2_leastNoseLift 9 = .ok (.getfield 25, 3) := by decide +kernel
theorem dX2_leastNoseLift_12 : decode cX2_leastNoseLift 12 = .ok (.aload_n 0, 1) := by decide +kernel
theorem dX2_leastNoseLift_13 : decode cX2_leastNoseLift 13 = .ok (.getfield 12, 3) := by decide +kernel
theorem dX2_leastNoseLift_16 : decode cX2_leastNoseLift 16 = .ok (.invokevirtual 42, 3) := by decide +kernel
theorem dX2_leastNoseLift_19 : decode cX2_leastNoseLift 19 = .ok (.aload_n 0, 1) := by decide +kernel
theorem dX2_leastNoseLift_20 : decode cX2_leastNoseLift 20 = .ok (.getfield 25, 3) := by decide +kernel
theorem dX2_leastNoseLift_23 : decode cX2_leastNoseLift 23 = .ok (.iconst 2, 1) := by decide +kernel
theorem dX2_leastNoseLift_24 : decode cX2_leastNoseLift 24 = .ok (.iload_n 2, 1) := by decide +kernel
theorem dX2_leastNoseLift_25 : decode cX2_leastNoseLift 25 = .ok (.invokevirtual 110, 3) := by decide +kernel
theorem dX2_leastNoseLift_28 : decode cX2_leastNoseLift 28 = .ok (.aload_n 1, 1) := by decide +kernel
theorem dX2_leastNoseLift_29 : decode cX2_leastNoseLift 29 = .ok (.aload_n 0, 1) := by decide +kernel
theorem dX2_leastNoseLift_30 : decode cX2_leastNoseLift 30 = .ok (.getfield 25, 3) := by decide +kernel
theorem dX2_leastNoseLift_33 : decode cX2_leastNoseLift 33 = .ok (.invokevirtual 57, 3) := by decide +kernel
theorem dX2_leastNoseLift_36 : decode cX2_leastNoseLift 36 = .ok (.ifCond .eq 5, 3) := by decide +kernel
theorem dX2_leastNoseLift_39 : decode cX2_leastNoseLift 39 = .ok (.iload_n 2, 1) := by decide +kernel
theorem dX2_leastNoseLift_40 : decode cX2_leastNoseLift 40 = .ok (.ireturn, 1) := by decide +kernel
theorem dX2_leastNoseLift_41 : decode cX2_leastNoseLift 41 = .ok (.iinc 2 1, 3) := by decide +kernel
theorem dX2_leastNoseLift_44 : decode cX2_leastNoseLift 44 = .ok (.goto (-42), 3) := by decide +kernel
theorem dX2_leastNoseLift_47 : decode cX2_leastNoseLift 47 = .ok (.ldc 69, 2) := by decide +kernel
theorem dX2_leastNoseLift_49 : decode cX2_leastNoseLift 49 = .ok (.ireturn, 1) := by decide +kernel
theorem dX2_share_0 : decode cX2_share 0 = .ok (.aload_n 0, 1) := by decide +kernel
theorem dX2_share_1 : decode cX2_share 1 = .ok (.getfield 22, 3) := by decide +kernel
theorem dX2_share_4 : decode cX2_share 4 = .ok (.iconst 0, 1) := by decide +kernel
theorem dX2_share_5 : decode cX2_share 5 = .ok (.iload_n 1, 1) := by decide +kernel
theorem dX2_share_6 : decode cX2_share 6 = .ok (.iastore, 1) := by decide +kernel
theorem dX2_share_7 : decode cX2_share 7 = .ok (.aload_n 0, 1) := by decide +kernel
theorem dX2_share_8 : decode cX2_share 8 = .ok (.getfield 22, 3) := by decide +kernel
theorem dX2_share_11 : decode cX2_share 11 = .ok (.iconst 1, 1) := by decide +kernel
theorem dX2_share_12 : decode cX2_share 12 = .ok (.iload_n 2, 1) := by decide +kernel
theorem dX2_share_13 : decode cX2_share 13 = .ok (.iastore, 1) := by decide +kernel
theorem dX2_share_14 : decode cX2_share 14 = .ok (.aload_n 0, 1) := by decide +kernel
theorem dX2_share_15 : decode cX2_share 15 = .ok (.getfield 22, 3) := by decide +kernel
theorem dX2_share_18 : decode cX2_share 18 = .ok (.iconst 2, 1) := by decide +kernel
theorem dX2_share_19 : decode cX2_share 19 = .ok (.iload_n 3, 1) := by decide +kernel
theorem dX2_share_20 : decode cX2_share 20 = .ok (.iastore, 1) := by decide +kernel
theorem dX2_share_21 : decode cX2_share 21 = .ok (.iload_n 1, 1) := by decide +kernel
theorem dX2_share_22 : decode cX2_share 22 = .ok (.iload_n 2, 1) := by decide +kernel
theorem dX2_share_23 : decode cX2_share 23 = .ok (.iadd, 1) := by decide +kernel
theorem dX2_share_24 : decode cX2_share 24 = .ok (.iload_n 3, 1) := by decide +kernel
theorem dX2_share_25 : decode cX2_share 25 = .ok (.iadd, 1) := by decide +kernel
theorem dX2_share_26 : decode cX2_share 26 = .ok (.ireturn, 1) := by decide +kernel
theorem dX2_tryWith_0 : decode cX2_tryWith 0 = .ok (.aload_n 0, 1) := by decide +kernel
theorem dX2_tryWith_1 : decode cX2_tryWith 1 = .ok (.getfield 12, 3) := by decide +kernel
theorem dX2_tryWith_4 : decode cX2_tryWith 4 = .ok (.aload_n 1, 1) := by decide +kernel
theorem dX2_tryWith_5 : decode cX2_tryWith 5 = .ok (.getfield 50, 3) := by decide +kernel
theorem dX2_tryWith_8 : decode cX2_tryWith 8 = .ok (.invokevirtual 42, 3) := by decide +kernel
theorem dX2_tryWith_11 : decode cX2_tryWith 11 = .ok (.aload_n 0, 1) := by decide +kernel
theorem dX2_tryWith_12 : decode cX2_tryWith 12 = .ok (.getfield 12, 3) := by decide +kernel
theorem dX2_tryWith_15 : decode cX2_tryWith 15 = .ok (.iload_n 3, 1) := by decide +kernel
theorem dX2_tryWith_16 : decode cX2_tryWith 16 = .ok (.ifCond .ne 8, 3) := by decide +kernel
theorem dX2_tryWith_19 : decode cX2_tryWith 19 = .ok (.iload 4, 2) := by decide +kernel
theorem dX2_tryWith_21 : decode cX2_tryWith 21 = .ok (.goto 9, 3) := by decide +kernel
theorem dX2_tryWith_24 : decode cX2_tryWith 24 = .ok (.aload_n 1, 1) := by decide +kernel
theorem dX2_tryWith_25 : decode cX2_tryWith 25 = .ok (.getfield 96, 3) := by decide +kernel
theorem dX2_tryWith_28 : decode cX2_tryWith 28 = .ok (.iload_n 2, 1) := by decide +kernel
theorem dX2_tryWith_29 : decode cX2_tryWith 29 = .ok (.iaload, 1) := by decide +kernel
theorem dX2_tryWith_30 : decode cX2_tryWith 30 = .ok (.iload_n 3, 1) := by decide +kernel
theorem dX2_tryWith_31 : decode cX2_tryWith 31 = .ok (.iconst 1, 1) := by decide +kernel
theorem dX2_tryWith_32 : decode cX2_tryWith 32 = .ok (.if_icmp .ne 8, 3) := by decide +kernel
theorem dX2_tryWith_35 : decode cX2_tryWith 35 = .ok (.iload 4, 2) := by decide +kernel
theorem dX2_tryWith_37 : decode cX2_tryWith 37 = .ok (.goto 9, 3) := by decide +kernel
theorem dX2_tryWith_40 : decode cX2_tryWith 40 = .ok (.aload_n 1, 1) := by decide +kernel
theorem dX2_tryWith_41 : decode cX2_tryWith 41 = .ok (.getfield 128, 3) := by decide +kernel
theorem dX2_tryWith_44 : decode cX2_tryWith 44 = .ok (.iload_n 2, 1) := by decide +kernel
theorem dX2_tryWith_45 : decode cX2_tryWith 45 = .ok (.iaload, 1) := by decide +kernel
theorem dX2_tryWith_46 : decode cX2_tryWith 46 = .ok (.iload_n 3, 1) := by decide +kernel
theorem dX2_tryWith_47 : decode cX2_tryWith 47 = .ok (.iconst 2, 1) := by decide +kernel
theorem dX2_tryWith_48 : decode cX2_tryWith 48 = .ok (.if_icmp .ne 8, 3) := by decide +kernel
theorem dX2_tryWith_51 : decode cX2_tryWith 51 = .ok (.iload 4, 2) := by decide +kernel
theorem dX2_tryWith_53 : decode cX2_tryWith 53 = .ok (.goto 9, 3) := by decide +kernel
theorem dX2_tryWith_56 : decode cX2_tryWith 56 = .ok (.aload_n 1, 1) := by decide +kernel
theorem dX2_tryWith_57 : decode cX2_tryWith 57 = .ok (.getfield 131, 3) := by decide +kernel
theorem dX2_tryWith_60 : decode cX2_tryWith 60 = .ok (.iload_n 2, 1) := by decide +kernel
theorem dX2_tryWith_61 : decode cX2_tryWith 61 = .ok (.iaload, 1) := by decide +kernel
theorem dX2_tryWith_62 : decode cX2_tryWith 62 = .ok (.invokevirtual 134, 3) := by decide +kernel
theorem dX2_tryWith_65 : decode cX2_tryWith 65 = .ok (.return_, 1) := by decide +kernel
theorem dX2_isSo_0 : decode cX2_isSo 0 = .ok (.iconst 0, 1) := by decide +kernel
theorem dX2_isSo_1 : decode cX2_isSo 1 = .ok (.istore 6, 2) := by decide +kernel
theorem dX2_isSo_3 : decode cX2_isSo 3 = .ok (.iload 6, 2) := by decide +kernel
theorem dX2_isSo_5 : decode cX2_isSo 5 = .ok (.iload 5, 2) := by decide +kernel
theorem dX2_isSo_7 : decode cX2_isSo 7 = .ok (.if_icmp .ge 38, 3) := by decide +kernel
theorem dX2_isSo_10 : decode cX2_isSo 10 = .ok (.aload_n 0, 1) := by decide +kernel
theorem dX2_isSo_11 : decode cX2_isSo 11 = .ok (.aload_n 1, 1) := by decide +kernel
theorem dX2_isSo_12 : decode cX2_isSo 12 = .ok (.aload_n 0, 1) := by decide +kernel
theorem dX2_isSo_13 : decode cX2_isSo 13 = .ok (.getfield 12, 3) := by decide +kernel
theorem dX2_isSo_16 : decode cX2_isSo 16 = .ok (.iload 6, 2) := by decide +kernel
theorem dX2_isSo_18 : decode cX2_isSo 18 = .ok (.iconst 1, 1) := by decide +kernel
theorem dX2_isSo_19 : decode cX2_isSo 19 = .ok (.iadd, 1) := by decide +kernel
theorem dX2_isSo_20 : decode cX2_isSo 20 = .ok (.invokevirtual 53, 3) := by decide +kernel
theorem dX2_isSo_23 : decode cX2_isSo 23 = .ok (.iload_n 2, 1) := by decide +kernel
theorem dX2_isSo_24 : decode cX2_isSo 24 = .ok (.invokevirtual 137, 3) := by decide +kernel
theorem dX2_isSo_27 : decode cX2_isSo 27 = .ok (.aload_n 3, 1) := by decide +kernel
theorem dX2_isSo_28 : decode cX2_isSo 28 = .ok (.iload 4, 2) := by decide +kernel
theorem dX2_isSo_30 : decode cX2_isSo 30 = .ok (.iload 6, 2) := by decide +kernel
theorem dX2_isSo_32 : decode cX2_isSo 32 = .ok (.iadd, 1) := by decide +kernel
theorem dX2_isSo_33 : decode cX2_isSo 33 = .ok (.iaload, 1) := by decide +kernel
theorem dX2_isSo_34 : decode cX2_isSo 34 = .ok (.if_icmp .eq 5, 3) := by decide +kernel
theorem dX2_isSo_37 : decode cX2_isSo 37 = .ok (.iconst 0, 1) := by decide +kernel
theorem dX2_isSo_38 : decode cX2_isSo 38 = .ok (.ireturn, 1) := by decide +kernel
theorem dX2_isSo_39 : decode cX2_isSo 39 = .ok (.iinc 6 1, 3) := by decide +kernel
theorem dX2_isSo_42 : decode cX2_isSo 42 = .ok (.goto (-39), 3) := by decide +kernel
theorem dX2_isSo_45 : decode cX2_isSo 45 = .ok (.iconst 1, 1) := by decide +kernel
theorem dX2_isSo_46 : decode cX2_isSo 46 = .ok (.ireturn, 1) := by decide +kernel
theorem dX2_casesInAll_0 : decode cX2_casesInAll 0 = .ok (.lconst 1, 1) := by decide +kernel
theorem dX2_casesInAll_1 : decode cX2_casesInAll 1 = .ok (.lstore_n 2, 1) := by decide +kernel
theorem dX2_casesInAll_2 : decode cX2_casesInAll 2 = .ok (.aload_n 1, 1) := by decide +kernel
theorem dX2_casesInAll_3 : decode cX2_casesInAll 3 = .ok (.invokevirtual 82, 3) := by decide +kernel
theorem dX2_casesInAll_6 : decode cX2_casesInAll 6 = .ok (.istore 4, 2) := by decide +kernel
theorem dX2_casesInAll_8 : decode cX2_casesInAll 8 = .ok (.iload 4, 2) := by decide +kernel
theorem dX2_casesInAll_10 : decode cX2_casesInAll 10 = .ok (.ifCond .le 15, 3) := by decide +kernel
theorem dX2_casesInAll_13 : decode cX2_casesInAll 13 = .ok (.lload_n 2, 1) := by decide +kernel
theorem dX2_casesInAll_14 : decode cX2_casesInAll 14 = .ok (.ldc2_w 140, 3) := by decide +kernel
theorem dX2_casesInAll_17 : decode cX2_casesInAll 17 = .ok (.lmul, 1) := by decide +kernel
theorem dX2_casesInAll_18 : decode cX2_casesInAll 18 = .ok (.lstore_n 2, 1) := by decide +kernel
theorem dX2_casesInAll_19 : decode cX2_casesInAll 19 = .ok (.iinc 4 (-1), 3) := by decide +kernel
theorem dX2_casesInAll_22 : decode cX2_casesInAll 22 = .ok (.goto (-14), 3) := by decide +kernel
theorem dX2_casesInAll_25 : decode cX2_casesInAll 25 = .ok (.lload_n 2, 1) := by decide +kernel
theorem dX2_casesInAll_26 : decode cX2_casesInAll 26 = .ok (.lreturn, 1) := by decide +kernel
theorem dX2_casesLevel_0 : decode cX2_casesLevel 0 = .ok (.lconst 0, 1) := by decide +kernel
theorem dX2_casesLevel_1 : decode cX2_casesLevel 1 = .ok (.lstore_n 3, 1) := by decide +kernel
theorem dX2_casesLevel_2 : decode cX2_casesLevel 2 = .ok (.iconst 0, 1) := by decide +kernel
theorem dX2_casesLevel_3 : decode cX2_casesLevel 3 = .ok (.istore 5, 2) := by decide +kernel
theorem dX2_casesLevel_5 : decode cX2_casesLevel 5 = .ok (.iload 5, 2) := by decide +kernel
theorem dX2_casesLevel_7 : decode cX2_casesLevel 7 = .ok (.iconst 1, 1) := by decide +kernel
theorem dX2_casesLevel_8 : decode cX2_casesLevel 8 = .ok (.aload_n 1, 1) := by decide +kernel
theorem dX2_casesLevel_9 : decode cX2_casesLevel 9 = .ok (.getfield 70, 3) := by decide +kernel
theorem dX2_casesLevel_12 : decode cX2_casesLevel 12 = .ok (.ishl, 1) := by decide +kernel
theorem dX2_casesLevel_13 : decode cX2_casesLevel 13 = .ok (.if_icmp .ge 135, 3) := by decide +kernel
theorem dX2_casesLevel_16 : decode cX2_casesLevel 16 = .ok (.iload 5, 2) := by decide +kernel
theorem dX2_casesLevel_18 : decode cX2_casesLevel 18 = .ok (.aload_n 1, 1) := by decide +kernel
theorem dX2_casesLevel_19 : decode cX2_casesLevel 19 = .ok (.getfield 85, 3) := by decide +kernel
theorem dX2_casesLevel_22 : decode cX2_casesLevel 22 = .ok (.iand, 1) := by decide +kernel
theorem dX2_casesLevel_23 : decode cX2_casesLevel 23 = .ok (.ifCond .eq 6, 3) := by decide +kernel
theorem dX2_casesLevel_26 : decode cX2_casesLevel 26 = .ok (.goto 116, 3) := by decide +kernel
theorem dX2_casesLevel_29 : decode cX2_casesLevel 29 = .ok (.aload_n 0, 1) := by decide +kernel
theorem dX2_casesLevel_30 : decode cX2_casesLevel 30 = .ok (.getfield 12, 3) := by decide +kernel
theorem dX2_casesLevel_33 : decode cX2_casesLevel 33 = .ok (.aload_n 1, 1) := by decide +kernel
theorem dX2_casesLevel_34 : decode cX2_casesLevel 34 = .ok (.getfield 50, 3) := by decide +kernel
theorem dX2_casesLevel_37 : decode cX2_casesLevel 37 = .ok (.invokevirtual 42, 3) := by decide +kernel
theorem dX2_casesLevel_40 : decode cX2_casesLevel 40 = .ok (.lconst 1, 1) := by decide +kernel
theorem dX2_casesLevel_41 : decode cX2_casesLevel 41 = .ok (.lstore 6, 2) := by decide +kernel
theorem dX2_casesLevel_43 : decode cX2_casesLevel 43 = .ok (.iconst 0, 1) := by decide +kernel
theorem dX2_casesLevel_44 : decode cX2_casesLevel 44 = .ok (.istore 8, 2) := by decide +kernel
theorem dX2_casesLevel_46 : decode cX2_casesLevel 46 = .ok (.iload 8, 2) := by decide +kernel
theorem dX2_casesLevel_48 : decode cX2_casesLevel 48 = .ok (.aload_n 1, 1) := by decide +kernel
theorem dX2_casesLevel_49 : decode cX2_casesLevel 49 = .ok (.getfield 70, 3) := by decide +kernel
theorem dX2_casesLevel_52 : decode cX2_casesLevel 52 = .ok (.if_icmp .ge 74, 3) := by decide +kernel
theorem dX2_casesLevel_55 : decode cX2_casesLevel 55 = .ok (.aload_n 1, 1) := by decide +kernel
theorem dX2_casesLevel_56 : decode cX2_casesLevel 56 = .ok (.iload 8, 2) := by decide +kernel
theorem dX2_casesLevel_58 : decode cX2_casesLevel 58 = .ok (.invokevirtual 74, 3) := by decide +kernel
theorem dX2_casesLevel_61 : decode cX2_casesLevel 61 = .ok (.ifCond .eq 6, 3) := by decide +kernel
theorem dX2_casesLevel_64 : decode cX2_casesLevel 64 = .ok (.goto 56, 3) := by decide +kernel
theorem dX2_casesLevel_67 : decode cX2_casesLevel 67 = .ok (.iload 5, 2) := by decide +kernel
theorem dX2_casesLevel_69 : decode cX2_casesLevel 69 = .ok (.iload 8, 2) := by decide +kernel
theorem dX2_casesLevel_71 : decode cX2_casesLevel 71 = .ok (.ishr, 1) := by decide +kernel
theorem dX2_casesLevel_72 : decode cX2_casesLevel 72 = .ok (.iconst 1, 1) := by decide +kernel
theorem dX2_casesLevel_73 : decode cX2_casesLevel 73 = .ok (.iand, 1) := by decide +kernel
theorem dX2_casesLevel_74 : decode cX2_casesLevel 74 = .ok (.iconst 1, 1) := by decide +kernel
theorem dX2_casesLevel_75 : decode cX2_casesLevel 75 = .ok (.if_icmp .ne 7, 3) := by decide +kernel
theorem dX2_casesLevel_78 : decode cX2_casesLevel 78 = .ok (.iconst 1, 1) := by decide +kernel
theorem dX2_casesLevel_79 : decode cX2_casesLevel 79 = .ok (.goto 4, 3) := by decide +kernel
theorem dX2_casesLevel_82 : decode cX2_casesLevel 82 = .ok (.iconst 0, 1) := by decide +kernel
theorem dX2_casesLevel_83 : decode cX2_casesLevel 83 = .ok (.istore 9, 2) := by decide +kernel
theorem dX2_casesLevel_85 : decode cX2_casesLevel 85 = .ok (.iload 9, 2) := by decide +kernel
theorem dX2_casesLevel_87 : decode cX2_casesLevel 87 = .ok (.ifCond .eq 13, 3) := by decide +kernel
theorem dX2_casesLevel_90 : decode cX2_casesLevel 90 = .ok (.aload_n 1, 1) := by decide +kernel
theorem dX2_casesLevel_91 : decode cX2_casesLevel 91 = .ok (.iload 8, 2) := by decide +kernel
theorem dX2_casesLevel_93 : decode cX2_casesLevel 93 = .ok (.aload_n 0, 1) := by decide +kernel
theorem dX2_casesLevel_94 : decode cX2_casesLevel 94 = .ok (.getfield 12, 3) := by decide +kernel
theorem dX2_casesLevel_97 : decode cX2_casesLevel 97 = .ok (.invokevirtual 65, 3) := by decide +kernel
theorem dX2_casesLevel_100 : decode cX2_casesLevel 100 = .ok (.lload 6, 2) := by decide +kernel
theorem dX2_casesLevel_102 : decode cX2_casesLevel 102 = .ok (.iload 9, 2) := by decide +kernel
theorem dX2_casesLevel_104 : decode cX2_casesLevel 104 = .ok (.ifCond .eq 11, 3) := by decide +kernel
theorem dX2_casesLevel_107 : decode cX2_casesLevel 107 = .ok (.bipush 10, 2) := by decide +kernel
theorem dX2_casesLevel_109 : decode cX2_casesLevel 109 = .ok (.iload_n 2, 1) := by decide +kernel
theorem dX2_casesLevel_110 : decode cX2_casesLevel 110 = .ok (.isub, 1) := by decide +kernel
theorem dX2_casesLevel_111 : decode cX2_casesLevel 111 = .ok (.i2l, 1) := by decide +kernel
theorem dX2_casesLevel_112 : decode cX2_casesLevel 112 = .ok (.goto 5, 3) := by decide +kernel
theorem dX2_casesLevel_115 : decode cX2_casesLevel 115 = .ok (.iload_n 2, 1) := by decide +kernel
theorem dX2_casesLevel_116 : decode cX2_casesLevel 116 = .ok (.i2l, 1) := by decide +kernel
theorem dX2_casesLevel_117 : decode cX2_casesLevel 117 = .ok (.lmul, 1) := by decide +kernel
theorem dX2_casesLevel_118 : decode cX2_casesLevel 118 = .ok (.lstore 6, 2) := by decide +kernel
theorem dX2_casesLevel_120 : decode cX2_casesLevel 120 = .ok (.iinc 8 1, 3) := by decide +kernel
theorem dX2_casesLevel_123 : decode cX2_casesLevel 123 = .ok (.goto (-77), 3) := by decide +kernel
theorem dX2_casesLevel_126 : decode cX2_casesLevel 126 = .ok (.aload_n 1, 1) := by decide +kernel
theorem dX2_casesLevel_127 : decode cX2_casesLevel 127 = .ok (.aload_n 0, 1) := by decide +kernel
theorem dX2_casesLevel_128 : decode cX2_casesLevel 128 = .ok (.getfield 12, 3) := by decide +kernel
theorem dX2_casesLevel_131 : decode cX2_casesLevel 131 = .ok (.invokevirtual 57, 3) := by decide +kernel
theorem dX2_casesLevel_134 : decode cX2_casesLevel 134 = .ok (.ifCond .eq 8, 3) := by decide +kernel
theorem dX2_casesLevel_137 : decode cX2_casesLevel 137 = .ok (.lload_n 3, 1) := by decide +kernel
theorem dX2_casesLevel_138 : decode cX2_casesLevel 138 = .ok (.lload 6, 2) := by decide +kernel
theorem dX2_casesLevel_140 : decode cX2_casesLevel 140 = .ok (.ladd, 1) := by decide +kernel
theorem dX2_casesLevel_141 : decode cX2_casesLevel 141 = .ok (.lstore_n 3, 1) := by decide +kernel
theorem dX2_casesLevel_142 : decode cX2_casesLevel 142 = .ok (.iinc 5 1, 3) := by decide +kernel
theorem dX2_casesLevel_145 : decode cX2_casesLevel 145 = .ok (.goto (-140), 3) := by decide +kernel
theorem dX2_casesLevel_148 : decode cX2_casesLevel 148 = .ok (.lload_n 3, 1) := by decide +kernel
theorem dX2_casesLevel_149 : decode cX2_casesLevel 149 = .ok (.lreturn, 1) := by decide +kernel
theorem dX2_drawNight_0 : decode cX2_drawNight 0 = .ok (.aload_n 1, 1) := by decide +kernel
theorem dX2_drawNight_1 : decode cX2_drawNight 1 = .ok (.getfield 70, 3) := by decide +kernel
theorem dX2_drawNight_4 : decode cX2_drawNight 4 = .ok (.iconst 1, 1) := by decide +kernel
theorem dX2_drawNight_5 : decode cX2_drawNight 5 = .ok (.if_icmp .ge 5, 3) := by decide +kernel
theorem dX2_drawNight_8 : decode cX2_drawNight 8 = .ok (.iconst 0, 1) := by decide +kernel
theorem dX2_drawNight_9 : decode cX2_drawNight 9 = .ok (.ireturn, 1) := by decide +kernel
theorem dX2_drawNight_10 : decode cX2_drawNight 10 = .ok (.aload_n 0, 1) := by decide +kernel
theorem dX2_drawNight_11 : decode cX2_drawNight 11 = .ok (.getfield 12, 3) := by decide +kernel
theorem dX2_drawNight_14 : decode cX2_drawNight 14 = .ok (.aload_n 1, 1) := by decide +kernel
theorem dX2_drawNight_15 : decode cX2_drawNight 15 = .ok (.getfield 50, 3) := by decide +kernel
theorem dX2_drawNight_18 : decode cX2_drawNight 18 = .ok (.invokevirtual 42, 3) := by decide +kernel
theorem dX2_drawNight_21 : decode cX2_drawNight 21 = .ok (.aload_n 1, 1) := by decide +kernel
theorem dX2_drawNight_22 : decode cX2_drawNight 22 = .ok (.getfield 85, 3) := by decide +kernel
theorem dX2_drawNight_25 : decode cX2_drawNight 25 = .ok (.istore 4, 2) := by decide +kernel
theorem dX2_drawNight_27 : decode cX2_drawNight 27 = .ok (.iconst 0, 1) := by decide +kernel
theorem dX2_drawNight_28 : decode cX2_drawNight 28 = .ok (.istore 5, 2) := by decide +kernel
theorem dX2_drawNight_30 : decode cX2_drawNight 30 = .ok (.iload_n 3, 1) := by decide +kernel
theorem dX2_drawNight_31 : decode cX2_drawNight 31 = .ok (.i2l, 1) := by decide +kernel
theorem dX2_drawNight_32 : decode cX2_drawNight 32 = .ok (.lstore 6, 2) := by decide +kernel
theorem dX2_drawNight_34 : decode cX2_drawNight 34 = .ok (.iconst 0, 1) := by decide +kernel
theorem dX2_drawNight_35 : decode cX2_drawNight 35 = .ok (.istore 8, 2) := by decide +kernel
theorem dX2_drawNight_37 : decode cX2_drawNight 37 = .ok (.iload 8, 2) := by decide +kernel
theorem dX2_drawNight_39 : decode cX2_drawNight 39 = .ok (.iload_n 2, 1) := by decide +kernel
theorem dX2_drawNight_40 : decode cX2_drawNight 40 = .ok (.if_icmp .ge 97, 3) := by decide +kernel
theorem dX2_drawNight_43 : decode cX2_drawNight 43 = .ok (.lload 6, 2) := by decide +kernel
theorem dX2_drawNight_45 : decode cX2_drawNight 45 = .ok (.ldc2_w 142, 3) := by decide +kernel
theorem dX2_drawNight_48 : decode cX2_drawNight 48 = .ok (.lmul, 1) := by decide +kernel
theorem dX2_drawNight_49 : decode cX2_drawNight 49 = .ok (.ldc2_w 144, 3) := by decide +kernel
theorem dX2_drawNight_52 : decode cX2_drawNight 52 = .ok (.lrem, 1) := by decide +kernel
theorem dX2_drawNight_53 : decode cX2_drawNight 53 = .ok (.lstore 6, 2) := by decide +kernel
theorem dX2_drawNight_55 : decode cX2_drawNight 55 = .ok (.lload 6, 2) := by decide +kernel
theorem dX2_drawNight_57 : decode cX2_drawNight 57 = .ok (.aload_n 1, 1) := by decide +kernel
theorem dX2_drawNight_58 : decode cX2_drawNight 58 = .ok (.getfield 70, 3) := by decide +kernel
theorem dX2_drawNight_61 : decode cX2_drawNight 61 = .ok (.i2l, 1) := by decide +kernel
theorem dX2_drawNight_62 : decode cX2_drawNight 62 = .ok (.lrem, 1) := by decide +kernel
theorem dX2_drawNight_63 : decode cX2_drawNight 63 = .ok (.l2i, 1) := by decide +kernel
theorem dX2_drawNight_64 : decode cX2_drawNight 64 = .ok (.istore 9, 2) := by decide +kernel
theorem dX2_drawNight_66 : decode cX2_drawNight 66 = .ok (.iload 4, 2) := by decide +kernel
theorem dX2_drawNight_68 : decode cX2_drawNight 68 = .ok (.iload 9, 2) := by decide +kernel
theorem dX2_drawNight_70 : decode cX2_drawNight 70 = .ok (.ishr, 1) := by decide +kernel
theorem dX2_drawNight_71 : decode cX2_drawNight 71 = .ok (.iconst 1, 1) := by decide +kernel
theorem dX2_drawNight_72 : decode cX2_drawNight 72 = .ok (.iand, 1) := by decide +kernel
theorem dX2_drawNight_73 : decode cX2_drawNight 73 = .ok (.ifCond .ne 13, 3) := by decide +kernel
theorem dX2_drawNight_76 : decode cX2_drawNight 76 = .ok (.aload_n 1, 1) := by decide +kernel
theorem dX2_drawNight_77 : decode cX2_drawNight 77 = .ok (.iload 9, 2) := by decide +kernel
theorem dX2_drawNight_79 : decode cX2_drawNight 79 = .ok (.aload_n 0, 1) := by decide +kernel
theorem dX2_drawNight_80 : decode cX2_drawNight 80 = .ok (.getfield 12, 3) := by decide +kernel
theorem dX2_drawNight_83 : decode cX2_drawNight 83 = .ok (.invokevirtual 65, 3) := by decide +kernel
theorem dX2_drawNight_86 : decode cX2_drawNight 86 = .ok (.iload 4, 2) := by decide +kernel
theorem dX2_drawNight_88 : decode cX2_drawNight 88 = .ok (.iconst 1, 1) := by decide +kernel
theorem dX2_drawNight_89 : decode cX2_drawNight 89 = .ok (.iload 9, 2) := by decide +kernel
theorem dX2_drawNight_91 : decode cX2_drawNight 91 = .ok (.ishl, 1) := by decide +kernel
theorem dX2_drawNight_92 : decode cX2_drawNight 92 = .ok (.ior, 1) := by decide +kernel
theorem dX2_drawNight_93 : decode cX2_drawNight 93 = .ok (.istore 4, 2) := by decide +kernel
theorem dX2_drawNight_95 : decode cX2_drawNight 95 = .ok (.aload_n 0, 1) := by decide +kernel
theorem dX2_drawNight_96 : decode cX2_drawNight 96 = .ok (.getfield 12, 3) := by decide +kernel
theorem dX2_drawNight_99 : decode cX2_drawNight 99 = .ok (.aload_n 1, 1) := by decide +kernel
theorem dX2_drawNight_100 : decode cX2_drawNight 100 = .ok (.iload 8, 2) := by decide +kernel
theorem dX2_drawNight_102 : decode cX2_drawNight 102 = .ok (.iconst 1, 1) := by decide +kernel
theorem dX2_drawNight_103 : decode cX2_drawNight 103 = .ok (.iadd, 1) := by decide +kernel
theorem dX2_drawNight_104 : decode cX2_drawNight 104 = .ok (.invokevirtual 32, 3) := by decide +kernel
theorem dX2_drawNight_107 : decode cX2_drawNight 107 = .ok (.aload_n 1, 1) := by decide +kernel
theorem dX2_drawNight_108 : decode cX2_drawNight 108 = .ok (.iload 8, 2) := by decide +kernel
theorem dX2_drawNight_110 : decode cX2_drawNight 110 = .ok (.invokevirtual 32, 3) := by decide +kernel
theorem dX2_drawNight_113 : decode cX2_drawNight 113 = .ok (.isub, 1) := by decide +kernel
theorem dX2_drawNight_114 : decode cX2_drawNight 114 = .ok (.invokevirtual 46, 3) := by decide +kernel
theorem dX2_drawNight_117 : decode cX2_drawNight 117 = .ok (.aload_n 1, 1) := by decide +kernel
theorem dX2_drawNight_118 : decode cX2_drawNight 118 = .ok (.aload_n 0, 1) := by decide +kernel
theorem dX2_drawNight_119 : decode cX2_drawNight 119 = .ok (.getfield 12, 3) := by decide +kernel
theorem dX2_drawNight_122 : decode cX2_drawNight 122 = .ok (.invokevirtual 57, 3) := by decide +kernel
theorem dX2_drawNight_125 : decode cX2_drawNight 125 = .ok (.ifCond .eq 6, 3) := by decide +kernel
theorem dX2_drawNight_128 : decode cX2_drawNight 128 = .ok (.iinc 5 1, 3) := by decide +kernel
theorem dX2_drawNight_131 : decode cX2_drawNight 131 = .ok (.iinc 8 1, 3) := by decide +kernel
theorem dX2_drawNight_134 : decode cX2_drawNight 134 = .ok (.goto (-97), 3) := by decide +kernel
theorem dX2_drawNight_137 : decode cX2_drawNight 137 = .ok (.iload 5, 2) := by decide +kernel
theorem dX2_drawNight_139 : decode cX2_drawNight 139 = .ok (.ireturn, 1) := by decide +kernel
theorem dX3_init_0 : decode cX3_init 0 = .ok (.aload_n 0, 1) := by decide +kernel
theorem dX3_init_1 : decode cX3_init 1 = .ok (.invokespecial 1, 3) := by decide +kernel
theorem dX3_init_4 : decode cX3_init 4 = .ok (.aload_n 0, 1) := by decide +kernel
theorem dX3_init_5 : decode cX3_init 5 = .ok (.bipush 8, 2) := by decide +kernel
theorem dX3_init_7 : decode cX3_init 7 = .ok (.bipush 40, 2) := by decide +kernel
theorem dX3_init_9 : decode cX3_init 9 = .ok (.multianewarray 9 2, 4) := by decide +kernel
theorem dX3_init_13 : decode cX3_init 13 = .ok (.putfield 11, 3) := by decide +kernel
theorem dX3_init_16 : decode cX3_init 16 = .ok (.aload_n 0, 1) := by decide +kernel
theorem dX3_init_17 : decode cX3_init 17 = .ok (.bipush 8, 2) := by decide +kernel
theorem dX3_init_19 : decode cX3_init 19 = .ok (.newarray .int, 2) := by decide +kernel
theorem dX3_init_21 : decode cX3_init 21 = .ok (.dup, 1) := by decide +kernel
theorem dX3_init_22 : decode cX3_init 22 = .ok (.iconst 0, 1) := by decide +kernel
theorem dX3_init_23 : decode cX3_init 23 = .ok (.iconst (-1), 1) := by decide +kernel
theorem dX3_init_24 : decode cX3_init 24 = .ok (.iastore, 1) := by decide +kernel
theorem dX3_init_25 : decode cX3_init 25 = .ok (.dup, 1) := by decide +kernel
theorem dX3_init_26 : decode cX3_init 26 = .ok (.iconst 1, 1) := by decide +kernel
theorem dX3_init_27 : decode cX3_init 27 = .ok (.iconst (-1), 1) := by decide +kernel
theorem dX3_init_28 : decode cX3_init 28 = .ok (.iastore, 1) := by decide +kernel
theorem dX3_init_29 : decode cX3_init 29 = .ok (.dup, 1) := by decide +kernel
theorem dX3_init_30 : decode cX3_init 30 = .ok (.iconst 2, 1) := by decide +kernel
theorem dX3_init_31 : decode cX3_init 31 = .ok (.iconst (-1), 1) := by decide +kernel
theorem dX3_init_32 : decode cX3_init 32 = .ok (.iastore, 1) := by decide +kernel
theorem dX3_init_33 : decode cX3_init 33 = .ok (.dup, 1) := by decide +kernel
theorem dX3_init_34 : decode cX3_init 34 = .ok (.iconst 3, 1) := by decide +kernel
theorem dX3_init_35 : decode cX3_init 35 = .ok (.iconst (-1), 1) := by decide +kernel
theorem dX3_init_36 : decode cX3_init 36 = .ok (.iastore, 1) := by decide +kernel
theorem dX3_init_37 : decode cX3_init 37 = .ok (.dup, 1) := by decide +kernel
theorem dX3_init_38 : decode cX3_init 38 = .ok (.iconst 4, 1) := by decide +kernel
theorem dX3_init_39 : decode cX3_init 39 = .ok (.iconst (-1), 1) := by decide +kernel
theorem dX3_init_40 : decode cX3_init 40 = .ok (.iastore, 1) := by decide +kernel
theorem dX3_init_41 : decode cX3_init 41 = .ok (.dup, 1) := by decide +kernel
theorem dX3_init_42 : decode cX3_init 42 = .ok (.iconst 5, 1) := by decide +kernel
theorem dX3_init_43 : decode cX3_init 43 = .ok (.iconst (-1), 1) := by decide +kernel
theorem dX3_init_44 : decode cX3_init 44 = .ok (.iastore, 1) := by decide +kernel
theorem dX3_init_45 : decode cX3_init 45 = .ok (.dup, 1) := by decide +kernel
theorem dX3_init_46 : decode cX3_init 46 = .ok (.bipush 6, 2) := by decide +kernel
theorem dX3_init_48 : decode cX3_init 48 = .ok (.iconst (-1), 1) := by decide +kernel
theorem dX3_init_49 : decode cX3_init 49 = .ok (.iastore, 1) := by decide +kernel
theorem dX3_init_50 : decode cX3_init 50 = .ok (.dup, 1) := by decide +kernel
theorem dX3_init_51 : decode cX3_init 51 = .ok (.bipush 7, 2) := by decide +kernel
theorem dX3_init_53 : decode cX3_init 53 = .ok (.iconst (-1), 1) := by decide +kernel
theorem dX3_init_54 : decode cX3_init 54 = .ok (.iastore, 1) := by decide +kernel
theorem dX3_init_55 : decode cX3_init 55 = .ok (.putfield 14, 3) := by decide +kernel
theorem dX3_init_58 : decode cX3_init 58 = .ok (.aload_n 0, 1) := by decide +kernel
theorem dX3_init_59 : decode cX3_init 59 = .ok (.bipush 8, 2) := by decide +kernel
theorem dX3_init_61 : decode cX3_init 61 = .ok (.newarray .int, 2) := by decide +kernel
theorem dX3_init_63 : decode cX3_init 63 = .ok (.putfield 18, 3) := by decide +kernel
theorem dX3_init_66 : decode cX3_init 66 = .ok (.return_, 1) := by decide +kernel
theorem dX3_isRow_0 : decode cX3_isRow 0 = .ok (.iload_n 1, 1) := by decide +kernel
theorem dX3_isRow_1 : decode cX3_isRow 1 = .ok (.ifCond .lt 13, 3) := by decide +kernel
theorem dX3_isRow_4 : decode cX3_isRow 4 = .ok (.iload_n 1, 1) := by decide +kernel
theorem dX3_isRow_5 : decode cX3_isRow 5 = .ok (.bipush 8, 2) := by decide +kernel
theorem dX3_isRow_7 : decode cX3_isRow 7 = .ok (.if_icmp .ge 7, 3) := by decide +kernel
theorem dX3_isRow_10 : decode cX3_isRow 10 = .ok (.iconst 1, 1) := by decide +kernel
theorem dX3_isRow_11 : decode cX3_isRow 11 = .ok (.goto 4, 3) := by decide +kernel
theorem dX3_isRow_14 : decode cX3_isRow 14 = .ok (.iconst 0, 1) := by decide +kernel
theorem dX3_isRow_15 : decode cX3_isRow 15 = .ok (.ireturn, 1) := by decide +kernel
theorem dX3_isMissing_0 : decode cX3_isMissing 0 = .ok (.aload_n 0, 1) := by decide +kernel
theorem dX3_isMissing_1 : decode cX3_isMissing 1 = .ok (.getfield 14, 3) := by decide +kernel
theorem dX3_isMissing_4 : decode cX3_isMissing 4 = .ok (.iload_n 1, 1) := by decide +kernel
theorem dX3_isMissing_5 : decode cX3_isMissing 5 = .ok (.iaload, 1) := by decide +kernel
theorem dX3_isMissing_6 : decode cX3_isMissing 6 = .ok (.iconst (-1), 1) := by decide +kernel
theorem dX3_isMissing_7 : decode cX3_isMissing 7 = .ok (.if_icmp .ne 7, 3) := by decide +kernel
theorem dX3_isMissing_10 : decode cX3_isMissing 10 = .ok (.iconst 1, 1) := by decide +kernel
theorem dX3_isMissing_11 : decode cX3_isMissing 11 = .ok (.goto 4, 3) := by decide +kernel
theorem dX3_isMissing_14 : decode cX3_isMissing 14 = .ok (.iconst 0, 1) := by decide +kernel
theorem dX3_isMissing_15 : decode cX3_isMissing 15 = .ok (.ireturn, 1) := by decide +kernel
theorem dX3_haveOneLane_0 : decode cX3_haveOneLane 0 = .ok (.aload_n 0, 1) := by decide +kernel
theorem dX3_haveOneLane_1 : decode cX3_haveOneLane 1 = .ok (.getfield 14, 3) := by decide +kernel
theorem dX3_haveOneLane_4 : decode cX3_haveOneLane 4 = .ok (.iload_n 1, 1) := by decide +kernel
theorem dX3_haveOneLane_5 : decode cX3_haveOneLane 5 = .ok (.iaload, 1) := by decide +kernel
theorem dX3_haveOneLane_6 : decode cX3_haveOneLane 6 = .ok (.aload_n 0, 1) := by decide +kernel
theorem dX3_haveOneLane_7 : decode cX3_haveOneLane 7 = .ok (.getfield 14, 3) := by decide +kernel
theorem dX3_haveOneLane_10 : decode cX3_haveOneLane 10 = .ok (.iload_n 2, 1) := by decide +kernel
theorem dX3_haveOneLane_11 : decode cX3_haveOneLane 11 = .ok (.iaload, 1) := by decide +kernel
theorem dX3_haveOneLane_12 : decode cX3_haveOneLane 12 = .ok (.if_icmp .ne 7, 3) := by decide +kernel
theorem dX3_haveOneLane_15 : decode cX3_haveOneLane 15 = .ok (.iconst 1, 1) := by decide +kernel
theorem dX3_haveOneLane_16 : decode cX3_haveOneLane 16 = .ok (.goto 4, 3) := by decide +kernel
theorem dX3_haveOneLane_19 : decode cX3_haveOneLane 19 = .ok (.iconst 0, 1) := by decide +kernel
theorem dX3_haveOneLane_20 : decode cX3_haveOneLane 20 = .ok (.ireturn, 1) := by decide +kernel
theorem dX3_hasPlaces_0 : decode cX3_hasPlaces 0 = .ok (.iload_n 2, 1) := by decide +kernel
theorem dX3_hasPlaces_1 : decode cX3_hasPlaces 1 = .ok (.ifCond .lt 33, 3) := by decide +kernel
theorem dX3_hasPlaces_4 : decode cX3_hasPlaces 4 = .ok (.iload_n 3, 1) := by decide +kernel
theorem dX3_hasPlaces_5 : decode cX3_hasPlaces 5 = .ok (.ifCond .lt 29, 3) := by decide +kernel
theorem dX3_hasPlaces_8 : decode cX3_hasPlaces 8 = .ok (.iload_n 2, 1) := by decide +kernel
theorem dX3_hasPlaces_9 : decode cX3_hasPlaces 9 = .ok (.aload_n 0, 1) := by decide +kernel
theorem dX3_hasPlaces_10 : decode cX3_hasPlaces 10 = .ok (.getfield 18, 3) := by decide +kernel
theorem dX3_hasPlaces_13 : decode cX3_hasPlaces 13 = .ok (.iload_n 1, 1) := by decide +kernel
theorem dX3_hasPlaces_14 : decode cX3_hasPlaces 14 = .ok (.iaload, 1) := by decide +kernel
theorem dX3_hasPlaces_15 : decode cX3_hasPlaces 15 = .ok (.if_icmp .gt 19, 3) := by decide +kernel
theorem dX3_hasPlaces_18 : decode cX3_hasPlaces 18 = .ok (.iload_n 3, 1) := by decide +kernel
theorem dX3_hasPlaces_19 : decode cX3_hasPlaces 19 = .ok (.aload_n 0, 1) := by decide +kernel
theorem dX3_hasPlaces_20 : decode cX3_hasPlaces 20 = .ok (.getfield 18, 3) := by decide +kernel
theorem dX3_hasPlaces_23 : decode cX3_hasPlaces 23 = .ok (.iload_n 1, 1) := by decide +kernel
theorem dX3_hasPlaces_24 : decode cX3_hasPlaces 24 = .ok (.iaload, 1) := by decide +kernel
theorem dX3_hasPlaces_25 : decode cX3_hasPlaces 25 = .ok (.iload_n 2, 1) := by decide +kernel
theorem dX3_hasPlaces_26 : decode cX3_hasPlaces 26 = .ok (.isub, 1) := by decide +kernel
theorem dX3_hasPlaces_27 : decode cX3_hasPlaces 27 = .ok (.if_icmp .gt 7, 3) := by decide +kernel
theorem dX3_hasPlaces_30 : decode cX3_hasPlaces 30 = .ok (.iconst 1, 1) := by decide +kernel
theorem dX3_hasPlaces_31 : decode cX3_hasPlaces 31 = .ok (.goto 4, 3) := by decide +kernel
theorem dX3_hasPlaces_34 : decode cX3_hasPlaces 34 = .ok (.iconst 0, 1) := by decide +kernel
theorem dX3_hasPlaces_35 : decode cX3_hasPlaces 35 = .ok (.ireturn, 1) := by decide +kernel
theorem dX3_howMany_0 : decode cX3_howMany 0 = .ok (.iconst 0, 1) := by decide +kernel
theorem dX3_howMany_1 : decode cX3_howMany 1 = .ok (.istore_n 1, 1) := by decide +kernel
theorem dX3_howMany_2 : decode cX3_howMany 2 = .ok (.iconst 0, 1) := by decide +kernel
theorem dX3_howMany_3 : decode cX3_howMany 3 = .ok (.istore_n 2, 1) := by decide +kernel
theorem dX3_howMany_4 : decode cX3_howMany 4 = .ok (.iload_n 2, 1) := by decide +kernel
theorem dX3_howMany_5 : decode cX3_howMany 5 = .ok (.bipush 8, 2) := by decide +kernel
theorem dX3_howMany_7 : decode cX3_howMany 7 = .ok (.if_icmp .ge 20, 3) := by decide +kernel
theorem dX3_howMany_10 : decode cX3_howMany 10 = .ok (.aload_n 0, 1) := by decide +kernel
theorem dX3_howMany_11 : decode cX3_howMany 11 = .ok (.iload_n 2, 1) := by decide +kernel
theorem dX3_howMany_12 : decode cX3_howMany 12 = .ok (.invokevirtual 21, 3) := by decide +kernel
theorem dX3_howMany_15 : decode cX3_howMany 15 = .ok (.ifCond .ne 6, 3) := by decide +kernel
theorem dX3_howMany_18 : decode cX3_howMany 18 = .ok (.iinc 1 1, 3) := by decide +kernel
theorem dX3_howMany_21 : decode cX3_howMany 21 = .ok (.iinc 2 1, 3) := by decide +kernel
theorem dX3_howMany_24 : decode cX3_howMany 24 = .ok (.goto (-20), 3) := by decide +kernel
theorem dX3_howMany_27 : decode cX3_howMany 27 = .ok (.iload_n 1, 1) := by decide +kernel
theorem dX3_howMany_28 : decode cX3_howMany 28 = .ok (.ireturn, 1) := by decide +kernel
theorem dX3_make_0 : decode cX3_make 0 = .ok (.aload_n 0, 1) := by decide +kernel
theorem dX3_make_1 : decode cX3_make 1 = .ok (.getfield 14, 3) := by decide +kernel
theorem dX3_make_4 : decode cX3_make 4 = .ok (.iload_n 1, 1) := by decide +kernel
theorem dX3_make_5 : decode cX3_make 5 = .ok (.iload_n 2, 1) := by decide +kernel
theorem dX3_make_6 : decode cX3_make 6 = .ok (.iastore, 1) := by decide +kernel
theorem dX3_make_7 : decode cX3_make 7 = .ok (.aload_n 0, 1) := by decide +kernel
theorem dX3_make_8 : decode cX3_make 8 = .ok (.getfield 18, 3) := by decide +kernel
theorem dX3_make_11 : decode cX3_make 11 = .ok (.iload_n 1, 1) := by decide +kernel
theorem dX3_make_12 : decode cX3_make 12 = .ok (.iload_n 3, 1) := by decide +kernel
theorem dX3_make_13 : decode cX3_make 13 = .ok (.iastore, 1) := by decide +kernel
theorem dX3_make_14 : decode cX3_make 14 = .ok (.iconst 0, 1) := by decide +kernel
theorem dX3_make_15 : decode cX3_make 15 = .ok (.istore 4, 2) := by decide +kernel
theorem dX3_make_17 : decode cX3_make 17 = .ok (.iload 4, 2) := by decide +kernel
theorem dX3_make_19 : decode cX3_make 19 = .ok (.iload_n 3, 1) := by decide +kernel
theorem dX3_make_20 : decode cX3_make 20 = .ok (.if_icmp .ge 19, 3) := by decide +kernel
theorem dX3_make_23 : decode cX3_make 23 = .ok (.aload_n 0, 1) := by decide +kernel
theorem dX3_make_24 : decode cX3_make 24 = .ok (.getfield 11, 3) := by decide +kernel
theorem dX3_make_27 : decode cX3_make 27 = .ok (.iload_n 1, 1) := by decide +kernel
theorem dX3_make_28 : decode cX3_make 28 = .ok (.aaload, 1) := by decide +kernel
theorem dX3_make_29 : decode cX3_make 29 = .ok (.iload 4, 2) := by decide +kernel
theorem dX3_make_31 : decode cX3_make 31 = .ok (.iconst 0, 1) := by decide +kernel
theorem dX3_make_32 : decode cX3_make 32 = .ok (.iastore, 1) := by decide +kernel
theorem dX3_make_33 : decode cX3_make 33 = .ok (.iinc 4 1, 3) := by decide +kernel
theorem dX3_make_36 : decode cX3_make 36 = .ok (.goto (-19), 3) := by decide +kernel
theorem dX3_make_39 : decode cX3_make 39 = .ok (.iload_n 3, 1) := by decide +kernel
theorem dX3_make_40 : decode cX3_make 40 = .ok (.ireturn, 1) := by decide +kernel
theorem dX3_put_0 : decode cX3_put 0 = .ok (.aload_n 0, 1) := by decide +kernel
theorem dX3_put_1 : decode cX3_put 1 = .ok (.getfield 11, 3) := by decide +kernel
theorem dX3_put_4 : decode cX3_put 4 = .ok (.iload_n 1, 1) := by decide +kernel
theorem dX3_put_5 : decode cX3_put 5 = .ok (.aaload, 1) := by decide +kernel
theorem dX3_put_6 : decode cX3_put 6 = .ok (.iload_n 2, 1) := by decide +kernel
theorem dX3_put_7 : decode cX3_put 7 = .ok (.aload_n 0, 1) := by decide +kernel
theorem dX3_put_8 : decode cX3_put 8 = .ok (.getfield 14, 3) := by decide +kernel
theorem dX3_put_11 : decode cX3_put 11 = .ok (.iload_n 1, 1) := by decide +kernel
theorem dX3_put_12 : decode cX3_put 12 = .ok (.iaload, 1) := by decide +kernel
theorem dX3_put_13 : decode cX3_put 13 = .ok (.ifCond .ne 8, 3) := by decide +kernel
theorem dX3_put_16 : decode cX3_put 16 = .ok (.iload_n 3, 1) := by decide +kernel
theorem dX3_put_17 : decode cX3_put 17 = .ok (.i2b, 1) := by decide +kernel
theorem dX3_put_18 : decode cX3_put 18 = .ok (.goto 19, 3) := by decide +kernel
theorem dX3_put_21 : decode cX3_put 21 = .ok (.aload_n 0, 1) := by decide +kernel
theorem dX3_put_22 : decode cX3_put 22 = .ok (.getfield 14, 3) := by decide +kernel
theorem dX3_put_25 : decode cX3_put 25 = .ok (.iload_n 1, 1) := by decide +kernel
theorem dX3_put_26 : decode cX3_put 26 = .ok (.iaload, 1) := by decide +kernel
theorem dX3_put_27 : decode cX3_put 27 = .ok (.iconst 1, 1) := by decide +kernel
theorem dX3_put_28 : decode cX3_put 28 = .ok (.if_icmp .ne 8, 3) := by decide +kernel
theorem dX3_put_31 : decode cX3_put 31 = .ok (.iload_n 3, 1) := by decide +kernel
theorem dX3_put_32 : decode cX3_put 32 = .ok (.i2s, 1) := by decide +kernel
theorem dX3_put_33 : decode cX3_put 33 = .ok (.goto 4, 3) := by decide +kernel
theorem dX3_put_36 : decode cX3_put 36 = .ok (.iload_n 3, 1) := by decide +kernel
theorem dX3_put_37 : decode cX3_put 37 = .ok (.iastore, 1) := by decide +kernel
theorem dX3_put_38 : decode cX3_put 38 = .ok (.aload_n 0, 1) := by decide +kernel
theorem dX3_put_39 : decode cX3_put 39 = .ok (.getfield 11, 3) := by decide +kernel
theorem dX3_put_42 : decode cX3_put 42 = .ok (.iload_n 1, 1) := by decide +kernel
theorem dX3_put_43 : decode cX3_put 43 = .ok (.aaload, 1) := by decide +kernel
theorem dX3_put_44 : decode cX3_put 44 = .ok (.iload_n 2, 1) := by decide +kernel
theorem dX3_put_45 : decode cX3_put 45 = .ok (.iaload, 1) := by decide +kernel
theorem dX3_put_46 : decode cX3_put 46 = .ok (.ireturn, 1) := by decide +kernel
theorem dX3_move_0 : decode cX3_move 0 = .ok (.aload_n 0, 1) := by decide +kernel
theorem dX3_move_1 : decode cX3_move 1 = .ok (.getfield 11, 3) := by decide +kernel
theorem dX3_move_4 : decode cX3_move 4 = .ok (.iload_n 1, 1) := by decide +kernel
theorem dX3_move_5 : decode cX3_move 5 = .ok (.aaload, 1) := by decide +kernel
theorem dX3_move_6 : decode cX3_move 6 = .ok (.iload_n 2, 1) := by decide +kernel
theorem dX3_move_7 : decode cX3_move 7 = .ok (.aload_n 0, 1) := by decide +kernel
theorem dX3_move_8 : decode cX3_move 8 = .ok (.getfield 11, 3) := by decide +kernel
theorem dX3_move_11 : decode cX3_move 11 = .ok (.iload_n 3, 1) := by decide +kernel
theorem dX3_move_12 : decode cX3_move 12 = .ok (.aaload, 1) := by decide +kernel
theorem dX3_move_13 : decode cX3_move 13 = .ok (.iload 4, 2) := by decide +kernel
theorem dX3_move_15 : decode cX3_move 15 = .ok (.iload 5, 2) := by decide +kernel
theorem dX3_move_17 : decode cX3_move 17 = .ok (.invokestatic 25, 3) := by decide +kernel
theorem dX3_move_20 : decode cX3_move 20 = .ok (.iload 5, 2) := by decide +kernel
theorem dX3_move_22 : decode cX3_move 22 = .ok (.ireturn, 1) := by decide +kernel
theorem dX3_remove_0 : decode cX3_remove 0 = .ok (.aload_n 0, 1) := by decide +kernel
theorem dX3_remove_1 : decode cX3_remove 1 = .ok (.getfield 14, 3) := by decide +kernel
theorem dX3_remove_4 : decode cX3_remove 4 = .ok (.iload_n 1, 1) := by decide +kernel
theorem dX3_remove_5 : decode cX3_remove 5 = .ok (.iconst (-1), 1) := by decide +kernel
theorem dX3_remove_6 : decode cX3_remove 6 = .ok (.iastore, 1) := by decide +kernel
theorem dX3_remove_7 : decode cX3_remove 7 = .ok (.aload_n 0, 1) := by decide +kernel
theorem dX3_remove_8 : decode cX3_remove 8 = .ok (.getfield 18, 3) := by decide +kernel
theorem dX3_remove_11 : decode cX3_remove 11 = .ok (.iload_n 1, 1) := by decide +kernel
theorem dX3_remove_12 : decode cX3_remove 12 = .ok (.iaload, 1) := by decide +kernel
theorem dX3_remove_13 : decode cX3_remove 13 = .ok (.ireturn, 1) := by decide +kernel
theorem dX4_init_0 : decode cX4_init 0 = .ok (.aload_n 0, 1) := by decide +kernel
theorem dX4_init_1 : decode cX4_init 1 = .ok (.invokespecial 3, 3) := by decide +kernel
theorem dX4_init_4 : decode cX4_init 4 = .ok (.aload_n 0, 1) := by decide +kernel
theorem dX4_init_5 : decode cX4_init 5 = .ok (.iconst 1, 1) := by decide +kernel
theorem dX4_init_6 : decode cX4_init 6 = .ok (.putfield 9, 3) := by decide +kernel
theorem dX4_init_9 : decode cX4_init 9 = .ok (.aload_n 0, 1) := by decide +kernel
theorem dX4_init_10 : decode cX4_init 10 = .ok (.bipush 7, 2) := by decide +kernel
theorem dX4_init_12 : decode cX4_init 12 = .ok (.newarray .int, 2) := by decide +kernel
theorem dX4_init_14 : decode cX4_init 14 = .ok (.putfield 15, 3) := by decide +kernel
theorem dX4_init_17 : decode cX4_init 17 = .ok (.aload_n 0, 1) := by decide +kernel
theorem dX4_init_18 : decode cX4_init 18 = .ok (.bipush 7, 2) := by decide +kernel
theorem dX4_init_20 : decode cX4_init 20 = .ok (.newarray .int, 2) := by decide +kernel
theorem dX4_init_22 : decode cX4_init 22 = .ok (.putfield 19, 3) := by decide +kernel
theorem dX4_init_25 : decode cX4_init 25 = .ok (.aload_n 0, 1) := by decide +kernel
theorem dX4_init_26 : decode cX4_init 26 = .ok (.bipush 7, 2) := by decide +kernel
theorem dX4_init_28 : decode cX4_init 28 = .ok (.newarray .int, 2) := by decide +kernel
theorem dX4_init_30 : decode cX4_init 30 = .ok (.putfield 22, 3) := by decide +kernel
theorem dX4_init_33 : decode cX4_init 33 = .ok (.aload_n 0, 1) := by decide +kernel
theorem dX4_init_34 : decode cX4_init 34 = .ok (.new 25, 3) := by decide +kernel
theorem dX4_init_37 : decode cX4_init 37 = .ok (.dup, 1) := by decide +kernel
theorem dX4_init_38 : decode cX4_init 38 = .ok (.invokespecial 27, 3) := by decide +kernel
theorem dX4_init_41 : decode cX4_init 41 = .ok (.putfield 28, 3) := by decide +kernel
theorem dX4_init_44 : decode cX4_init 44 = .ok (.return_, 1) := by decide +kernel
theorem dX4_clear_0 : decode cX4_clear 0 = .ok (.aload_n 0, 1) := by decide +kernel
theorem dX4_clear_1 : decode cX4_clear 1 = .ok (.iconst 0, 1) := by decide +kernel
theorem dX4_clear_2 : decode cX4_clear 2 = .ok (.putfield 32, 3) := by decide +kernel
theorem dX4_clear_5 : decode cX4_clear 5 = .ok (.aload_n 0, 1) := by decide +kernel
theorem dX4_clear_6 : decode cX4_clear 6 = .ok (.iconst 0, 1) := by decide +kernel
theorem dX4_clear_7 : decode cX4_clear 7 = .ok (.putfield 36, 3) := by decide +kernel
theorem dX4_clear_10 : decode cX4_clear 10 = .ok (.aload_n 0, 1) := by decide +kernel
theorem dX4_clear_11 : decode cX4_clear 11 = .ok (.iconst 0, 1) := by decide +kernel
theorem dX4_clear_12 : decode cX4_clear 12 = .ok (.putfield 39, 3) := by decide +kernel
theorem dX4_clear_15 : decode cX4_clear 15 = .ok (.aload_n 0, 1) := by decide +kernel
theorem dX4_clear_16 : decode cX4_clear 16 = .ok (.iconst 0, 1) := by decide +kernel
theorem dX4_clear_17 : decode cX4_clear 17 = .ok (.putfield 42, 3) := by decide +kernel
theorem dX4_clear_20 : decode cX4_clear 20 = .ok (.return_, 1) := by decide +kernel
theorem dX4_copyFrom_0 : decode cX4_copyFrom 0 = .ok (.aload_n 0, 1) := by decide +kernel
theorem dX4_copyFrom_1 : decode cX4_copyFrom 1 = .ok (.aload_n 1, 1) := by decide +kernel
theorem dX4_copyFrom_2 : decode cX4_copyFrom 2 = .ok (.getfield 32, 3) := by decide +kernel
theorem dX4_copyFrom_5 : decode cX4_copyFrom 5 = .ok (.putfield 32, 3) := by decide +kernel
theorem dX4_copyFrom_8 : decode cX4_copyFrom 8 = .ok (.aload_n 0, 1) := by decide +kernel
theorem dX4_copyFrom_9 : decode cX4_copyFrom 9 = .ok (.aload_n 1, 1) := by decide +kernel
theorem dX4_copyFrom_10 : decode cX4_copyFrom 10 = .ok (.getfield 45, 3) := by decide +kernel
theorem dX4_copyFrom_13 : decode cX4_copyFrom 13 = .ok (.putfield 45, 3) := by decide +kernel
theorem dX4_copyFrom_16 : decode cX4_copyFrom 16 = .ok (.aload_n 0, 1) := by decide +kernel
theorem dX4_copyFrom_17 : decode cX4_copyFrom 17 = .ok (.aload_n 1, 1) := by decide +kernel
theorem dX4_copyFrom_18 : decode cX4_copyFrom 18 = .ok (.getfield 48, 3) := by decide +kernel
theorem dX4_copyFrom_21 : decode cX4_copyFrom 21 = .ok (.putfield 48, 3) := by decide +kernel
theorem dX4_copyFrom_24 : decode cX4_copyFrom 24 = .ok (.aload_n 0, 1) := by decide +kernel
theorem dX4_copyFrom_25 : decode cX4_copyFrom 25 = .ok (.aload_n 1, 1) := by decide +kernel
theorem dX4_copyFrom_26 : decode cX4_copyFrom 26 = .ok (.getfield 9, 3) := by decide +kernel
theorem dX4_copyFrom_29 : decode cX4_copyFrom 29 = .ok (.putfield 9, 3) := by decide +kernel
theorem dX4_copyFrom_32 : decode cX4_copyFrom 32 = .ok (.aload_n 0, 1) := by decide +kernel
theorem dX4_copyFrom_33 : decode cX4_copyFrom 33 = .ok (.aload_n 1, 1) := by decide +kernel
theorem dX4_copyFrom_34 : decode cX4_copyFrom 34 = .ok (.getfield 36, 3) := by decide +kernel
theorem dX4_copyFrom_37 : decode cX4_copyFrom 37 = .ok (.putfield 36, 3) := by decide +kernel
theorem dX4_copyFrom_40 : decode cX4_copyFrom 40 = .ok (.aload_n 0, 1) := by decide +kernel
theorem dX4_copyFrom_41 : decode cX4_copyFrom 41 = .ok (.aload_n 1, 1) := by decide +kernel
theorem dX4_copyFrom_42 : decode cX4_copyFrom 42 = .ok (.getfield 39, 3) := by decide +kernel
theorem dX4_copyFrom_45 : decode cX4_copyFrom 45 = .ok (.putfield 39, 3) := by decide +kernel
theorem dX4_copyFrom_48 : decode cX4_copyFrom 48 = .ok (.aload_n 0, 1) := by decide +kernel
theorem dX4_copyFrom_49 : decode cX4_copyFrom 49 = .ok (.aload_n 1, 1) := by decide +kernel
theorem dX4_copyFrom_50 : decode cX4_copyFrom 50 = .ok (.getfield 42, 3) := by decide +kernel
theorem dX4_copyFrom_53 : decode cX4_copyFrom 53 = .ok (.putfield 42, 3) := by decide +kernel
theorem dX4_copyFrom_56 : decode cX4_copyFrom 56 = .ok (.aload_n 1, 1) := by decide +kernel
theorem dX4_copyFrom_57 : decode cX4_copyFrom 57 = .ok (.getfield 15, 3) := by decide +kernel
theorem dX4_copyFrom_60 : decode cX4_copyFrom 60 = .ok (.iconst 0, 1) := by decide +kernel
theorem dX4_copyFrom_61 : decode cX4_copyFrom 61 = .ok (.aload_n 0, 1) := by decide +kernel
theorem dX4_copyFrom_62 : decode cX4_copyFrom 62 = .ok (.getfield 15, 3) := by decide +kernel
theorem dX4_copyFrom_65 : decode cX4_copyFrom 65 = .ok (.iconst 0, 1) := by decide +kernel
theorem dX4_copyFrom_66 : decode cX4_copyFrom 66 = .ok (.bipush 7, 2) := by decide +kernel
theorem dX4_copyFrom_68 : decode cX4_copyFrom 68 = .ok (.invokestatic 51, 3) := by decide +kernel
theorem dX4_copyFrom_71 : decode cX4_copyFrom 71 = .ok (.aload_n 1, 1) := by decide +kernel
theorem dX4_copyFrom_72 : decode cX4_copyFrom 72 = .ok (.getfield 19, 3) := by decide +kernel
theorem dX4_copyFrom_75 : decode cX4_copyFrom 75 = .ok (.iconst 0, 1) := by decide +kernel
theorem dX4_copyFrom_76 : decode cX4_copyFrom 76 = .ok (.aload_n 0, 1) := by decide +kernel
theorem dX4_copyFrom_77 : decode cX4_copyFrom 77 = .ok (.getfield 19, 3) := by decide +kernel
theorem dX4_copyFrom_80 : decode cX4_copyFrom 80 = .ok (.iconst 0, 1) := by decide +kernel
theorem dX4_copyFrom_81 : decode cX4_copyFrom 81 = .ok (.bipush 7, 2) := by decide +kernel
theorem dX4_copyFrom_83 : decode cX4_copyFrom 83 = .ok (.invokestatic 51, 3) := by decide +kernel
theorem dX4_copyFrom_86 : decode cX4_copyFrom 86 = .ok (.aload_n 1, 1) := by decide +kernel
theorem dX4_copyFrom_87 : decode cX4_copyFrom 87 = .ok (.getfield 22, 3) := by decide +kernel
theorem dX4_copyFrom_90 : decode cX4_copyFrom 90 = .ok (.iconst 0, 1) := by decide +kernel
theorem dX4_copyFrom_91 : decode cX4_copyFrom 91 = .ok (.aload_n 0, 1) := by decide +kernel
theorem dX4_copyFrom_92 : decode cX4_copyFrom 92 = .ok (.getfield 22, 3) := by decide +kernel
theorem dX4_copyFrom_95 : decode cX4_copyFrom 95 = .ok (.iconst 0, 1) := by decide +kernel
theorem dX4_copyFrom_96 : decode cX4_copyFrom 96 = .ok (.bipush 7, 2) := by decide +kernel
theorem dX4_copyFrom_98 : decode cX4_copyFrom 98 = .ok (.invokestatic 51, 3) := by decide +kernel
theorem dX4_copyFrom_101 : decode cX4_copyFrom 101 = .ok (.aload_n 0, 1) := by decide +kernel
theorem dX4_copyFrom_102 : decode cX4_copyFrom 102 = .ok (.getfield 28, 3) := by decide +kernel
theorem dX4_copyFrom_105 : decode cX4_copyFrom 105 = .ok (.aload_n 1, 1) := by decide +kernel
theorem dX4_copyFrom_106 : decode cX4_copyFrom 106 = .ok (.getfield 28, 3) := by decide +kernel
theorem dX4_copyFrom_109 : decode cX4_copyFrom 109 = .ok (.invokevirtual 57, 3) := by decide +kernel
theorem dX4_copyFrom_112 : decode cX4_copyFrom 112 = .ok (.return_, 1) := by decide +kernel
theorem dX4_addDeed_0 : decode cX4_addDeed 0 = .ok (.aload_n 0, 1) := by decide +kernel
theorem dX4_addDeed_1 : decode cX4_addDeed 1 = .ok (.getfield 15, 3) := by decide +kernel
theorem dX4_addDeed_4 : decode cX4_addDeed 4 = .ok (.aload_n 0, 1) := by decide +kernel
theorem dX4_addDeed_5 : decode cX4_addDeed 5 = .ok (.getfield 39, 3) := by decide +kernel
theorem dX4_addDeed_8 : decode cX4_addDeed 8 = .ok (.iload_n 1, 1) := by decide +kernel
theorem dX4_addDeed_9 : decode cX4_addDeed 9 = .ok (.iastore, 1) := by decide +kernel
theorem dX4_addDeed_10 : decode cX4_addDeed 10 = .ok (.aload_n 0, 1) := by decide +kernel
theorem dX4_addDeed_11 : decode cX4_addDeed 11 = .ok (.getfield 19, 3) := by decide +kernel
theorem dX4_addDeed_14 : decode cX4_addDeed 14 = .ok (.aload_n 0, 1) := by decide +kernel
theorem dX4_addDeed_15 : decode cX4_addDeed 15 = .ok (.getfield 39, 3) := by decide +kernel
theorem dX4_addDeed_18 : decode cX4_addDeed 18 = .ok (.iload_n 2, 1) := by decide +kernel
theorem dX4_addDeed_19 : decode cX4_addDeed 19 = .ok (.iastore, 1) := by decide +kernel
theorem dX4_addDeed_20 : decode cX4_addDeed 20 = .ok (.aload_n 0, 1) := by decide +kernel
theorem dX4_addDeed_21 : decode cX4_addDeed 21 = .ok (.getfield 22, 3) := by decide +kernel
theorem dX4_addDeed_24 : decode cX4_addDeed 24 = .ok (.aload_n 0, 1) := by decide +kernel
theorem dX4_addDeed_25 : decode cX4_addDeed 25 = .ok (.getfield 39, 3) := by decide +kernel
theorem dX4_addDeed_28 : decode cX4_addDeed 28 = .ok (.iload_n 3, 1) := by decide +kernel
theorem dX4_addDeed_29 : decode cX4_addDeed 29 = .ok (.iastore, 1) := by decide +kernel
theorem dX4_addDeed_30 : decode cX4_addDeed 30 = .ok (.aload_n 0, 1) := by decide +kernel
theorem dX4_addDeed_31 : decode cX4_addDeed 31 = .ok (.dup, 1) := by decide +kernel
theorem dX4_addDeed_32 : decode cX4_addDeed 32 = .ok (.getfield 39, 3) := by decide +kernel
theorem dX4_addDeed_35 : decode cX4_addDeed 35 = .ok (.iconst 1, 1) := by decide +kernel
theorem dX4_addDeed_36 : decode cX4_addDeed 36 = .ok (.iadd, 1) := by decide +kernel
theorem dX4_addDeed_37 : decode cX4_addDeed 37 = .ok (.putfield 39, 3) := by decide +kernel
theorem dX4_addDeed_40 : decode cX4_addDeed 40 = .ok (.return_, 1) := by decide +kernel
theorem dX4_hasDeed_0 : decode cX4_hasDeed 0 = .ok (.iload_n 1, 1) := by decide +kernel
theorem dX4_hasDeed_1 : decode cX4_hasDeed 1 = .ok (.ifCond .lt 15, 3) := by decide +kernel
theorem dX4_hasDeed_4 : decode cX4_hasDeed 4 = .ok (.iload_n 1, 1) := by decide +kernel
theorem dX4_hasDeed_5 : decode cX4_hasDeed 5 = .ok (.aload_n 0, 1) := by decide +kernel
theorem dX4_hasDeed_6 : decode cX4_hasDeed 6 = .ok (.getfield 39, 3) := by decide +kernel
theorem dX4_hasDeed_9 : decode cX4_hasDeed 9 = .ok (.if_icmp .ge 7, 3) := by decide +kernel
theorem dX4_hasDeed_12 : decode cX4_hasDeed 12 = .ok (.iconst 1, 1) := by decide +kernel
theorem dX4_hasDeed_13 : decode cX4_hasDeed 13 = .ok (.goto 4, 3) := by decide +kernel
theorem dX4_hasDeed_16 : decode cX4_hasDeed 16 = .ok (.iconst 0, 1) := by decide +kernel
theorem dX4_hasDeed_17 : decode cX4_hasDeed 17 = .ok (.ireturn, 1) := by decide +kernel
theorem dX4_isDone_0 : decode cX4_isDone 0 = .ok (.aload_n 0, 1) := by decide +kernel
theorem dX4_isDone_1 : decode cX4_isDone 1 = .ok (.getfield 42, 3) := by decide +kernel
theorem dX4_isDone_4 : decode cX4_isDone 4 = .ok (.iload_n 1, 1) := by decide +kernel
theorem dX4_isDone_5 : decode cX4_isDone 5 = .ok (.ishr, 1) := by decide +kernel
theorem dX4_isDone_6 : decode cX4_isDone 6 = .ok (.iconst 1, 1) := by decide +kernel
theorem dX4_isDone_7 : decode cX4_isDone 7 = .ok (.iand, 1) := by decide +kernel
theorem dX4_isDone_8 : decode cX4_isDone 8 = .ok (.iconst 1, 1) := by decide +kernel
theorem dX4_isDone_9 : decode cX4_isDone 9 = .ok (.if_icmp .ne 7, 3) := by decide +kernel
theorem dX4_isDone_12 : decode cX4_isDone 12 = .ok (.iconst 1, 1) := by decide +kernel
theorem dX4_isDone_13 : decode cX4_isDone 13 = .ok (.goto 4, 3) := by decide +kernel
theorem dX4_isDone_16 : decode cX4_isDone 16 = .ok (.iconst 0, 1) := by decide +kernel
theorem dX4_isDone_17 : decode cX4_isDone 17 = .ok (.ireturn, 1) := by decide +kernel
theorem dX4_leftCount_0 : decode cX4_leftCount 0 = .ok (.aload_n 0, 1) := by decide +kernel
theorem dX4_leftCount_1 : decode cX4_leftCount 1 = .ok (.getfield 39, 3) := by decide +kernel
theorem dX4_leftCount_4 : decode cX4_leftCount 4 = .ok (.aload_n 0, 1) := by decide +kernel
theorem dX4_leftCount_5 : decode cX4_leftCount 5 = .ok (.getfield 42, 3) := by decide +kernel
theorem dX4_leftCount_8 : decode cX4_leftCount 8 = .ok (.invokestatic 61, 3) := by decide +kernel
theorem dX4_leftCount_11 : decode cX4_leftCount 11 = .ok (.isub, 1) := by decide +kernel
theorem dX4_leftCount_12 : decode cX4_leftCount 12 = .ok (.ireturn, 1) := by decide +kernel
theorem dX4_isLevel_0 : decode cX4_isLevel 0 = .ok (.aload_n 1, 1) := by decide +kernel
theorem dX4_isLevel_1 : decode cX4_isLevel 1 = .ok (.invokevirtual 67, 3) := by decide +kernel
theorem dX4_isLevel_4 : decode cX4_isLevel 4 = .ok (.invokestatic 71, 3) := by decide +kernel
theorem dX4_isLevel_7 : decode cX4_isLevel 7 = .ok (.aload_n 0, 1) := by decide +kernel
theorem dX4_isLevel_8 : decode cX4_isLevel 8 = .ok (.getfield 45, 3) := by decide +kernel
theorem dX4_isLevel_11 : decode cX4_isLevel 11 = .ok (.if_icmp .gt 21, 3) := by decide +kernel
theorem dX4_isLevel_14 : decode cX4_isLevel 14 = .ok (.aload_n 1, 1) := by decide +kernel
theorem dX4_isLevel_15 : decode cX4_isLevel 15 = .ok (.invokevirtual 76, 3) := by decide +kernel
theorem dX4_isLevel_18 : decode cX4_isLevel 18 = .ok (.invokestatic 71, 3) := by decide +kernel
theorem dX4_isLevel_21 : decode cX4_isLevel 21 = .ok (.aload_n 0, 1) := by decide +kernel
theorem dX4_isLevel_22 : decode cX4_isLevel 22 = .ok (.getfield 48, 3) := by decide +kernel
theorem dX4_isLevel_25 : decode cX4_isLevel 25 = .ok (.if_icmp .gt 7, 3) := by decide +kernel
theorem dX4_isLevel_28 : decode cX4_isLevel 28 = .ok (.iconst 1, 1) := by decide +kernel
theorem dX4_isLevel_29 : decode cX4_isLevel 29 = .ok (.goto 4, 3) := by decide +kernel
theorem dX4_isLevel_32 : decode cX4_isLevel 32 = .ok (.iconst 0, 1) := by decide +kernel
theorem dX4_isLevel_33 : decode cX4_isLevel 33 = .ok (.ireturn, 1) := by decide +kernel
theorem dX4_enact_0 : decode cX4_enact 0 = .ok (.aload_n 2, 1) := by decide +kernel
theorem dX4_enact_1 : decode cX4_enact 1 = .ok (.aload_n 0, 1) := by decide +kernel
theorem dX4_enact_2 : decode cX4_enact 2 = .ok (.getfield 15, 3) := by decide +kernel
theorem dX4_enact_5 : decode cX4_enact 5 = .ok (.iload_n 1, 1) := by decide +kernel
theorem dX4_enact_6 : decode cX4_enact 6 = .ok (.iaload, 1) := by decide +kernel
theorem dX4_enact_7 : decode cX4_enact 7 = .ok (.aload_n 0, 1) := by decide +kernel
theorem dX4_enact_8 : decode cX4_enact 8 = .ok (.getfield 19, 3) := by decide +kernel
theorem dX4_enact_11 : decode cX4_enact 11 = .ok (.iload_n 1, 1) := by decide +kernel
theorem dX4_enact_12 : decode cX4_enact 12 = .ok (.iaload, 1) := by decide +kernel
theorem dX4_enact_13 : decode cX4_enact 13 = .ok (.aload_n 0, 1) := by decide +kernel
theorem dX4_enact_14 : decode cX4_enact 14 = .ok (.getfield 22, 3) := by decide +kernel
theorem dX4_enact_17 : decode cX4_enact 17 = .ok (.iload_n 1, 1) := by decide +kernel
theorem dX4_enact_18 : decode cX4_enact 18 = .ok (.iaload, 1) := by decide +kernel
theorem dX4_enact_19 : decode cX4_enact 19 = .ok (.invokevirtual 79, 3) := by decide +kernel
theorem dX4_enact_22 : decode cX4_enact 22 = .ok (.return_, 1) := by decide +kernel
theorem dX4_rainsWithin_0 : decode cX4_rainsWithin 0 = .ok (.aload_n 0, 1) := by decide +kernel
theorem dX4_rainsWithin_1 : decode cX4_rainsWithin 1 = .ok (.getfield 9, 3) := by decide +kernel
theorem dX4_rainsWithin_4 : decode cX4_rainsWithin 4 = .ok (.iconst 1, 1) := by decide +kernel
theorem dX4_rainsWithin_5 : decode cX4_rainsWithin 5 = .ok (.if_icmp .ge 5, 3) := by decide +kernel
theorem dX4_rainsWithin_8 : decode cX4_rainsWithin 8 = .ok (.iconst 0, 1) := by decide +kernel
theorem dX4_rainsWithin_9 : decode cX4_rainsWithin 9 = .ok (.ireturn, 1) := by decide +kernel
theorem dX4_rainsWithin_10 : decode cX4_rainsWithin 10 = .ok (.aload_n 0, 1) := by decide +kernel
theorem dX4_rainsWithin_11 : decode cX4_rainsWithin 11 = .ok (.getfield 36, 3) := by decide +kernel
theorem dX4_rainsWithin_14 : decode cX4_rainsWithin 14 = .ok (.iload_n 1, 1) := by decide +kernel
theorem dX4_rainsWithin_15 : decode cX4_rainsWithin 15 = .ok (.iadd, 1) := by decide +kernel
theorem dX4_rainsWithin_16 : decode cX4_rainsWithin 16 = .ok (.aload_n 0, 1) := by decide +kernel
theorem dX4_rainsWithin_17 : decode cX4_rainsWithin 17 = .ok (.getfield 9, 3) := by decide +kernel
theorem dX4_rainsWithin_20 : decode cX4_rainsWithin 20 = .ok (.iadd, 1) := by decide +kernel
theorem dX4_rainsWithin_21 : decode cX4_rainsWithin 21 = .ok (.iconst 1, 1) := by decide +kernel
theorem dX4_rainsWithin_22 : decode cX4_rainsWithin 22 = .ok (.isub, 1) := by decide +kernel
theorem dX4_rainsWithin_23 : decode cX4_rainsWithin 23 = .ok (.aload_n 0, 1) := by decide +kernel
theorem dX4_rainsWithin_24 : decode cX4_rainsWithin 24 = .ok (.getfield 9, 3) := by decide +kernel
theorem dX4_rainsWithin_27 : decode cX4_rainsWithin 27 = .ok (.idiv, 1) := by decide +kernel
theorem dX4_rainsWithin_28 : decode cX4_rainsWithin 28 = .ok (.aload_n 0, 1) := by decide +kernel
theorem dX4_rainsWithin_29 : decode cX4_rainsWithin 29 = .ok (.getfield 36, 3) := by decide +kernel
theorem dX4_rainsWithin_32 : decode cX4_rainsWithin 32 = .ok (.aload_n 0, 1) := by decide +kernel
theorem dX4_rainsWithin_33 : decode cX4_rainsWithin 33 = .ok (.getfield 9, 3) := by decide +kernel
theorem dX4_rainsWithin_36 : decode cX4_rainsWithin 36 = .ok (.iadd, 1) := by decide +kernel
theorem dX4_rainsWithin_37 : decode cX4_rainsWithin 37 = .ok (.iconst 1, 1) := by decide +kernel
theorem dX4_rainsWithin_38 : decode cX4_rainsWithin 38 = .ok (.isub, 1) := by decide +kernel
theorem dX4_rainsWithin_39 : decode cX4_rainsWithin 39 = .ok (.aload_n 0, 1) := by decide +kernel
theorem dX4_rainsWithin_40 : decode cX4_rainsWithin 40 = .ok (.getfield 9, 3) := by decide +kernel
theorem dX4_rainsWithin_43 : decode cX4_rainsWithin 43 = .ok (.idiv, 1) := by decide +kernel
theorem dX4_rainsWithin_44 : decode cX4_rainsWithin 44 = .ok (.isub, 1) := by decide +kernel
theorem dX4_rainsWithin_45 : decode cX4_rainsWithin 45 = .ok (.ireturn, 1) := by decide +kernel
theorem dX4_passHour_0 : decode cX4_passHour 0 = .ok (.aload_n 0, 1) := by decide +kernel
theorem dX4_passHour_1 : decode cX4_passHour 1 = .ok (.getfield 28, 3) := by decide +kernel
theorem dX4_passHour_4 : decode cX4_passHour 4 = .ok (.aload_n 0, 1) := by decide +kernel
theorem dX4_passHour_5 : decode cX4_passHour 5 = .ok (.iconst 1, 1) := by decide +kernel
theorem dX4_passHour_6 : decode cX4_passHour 6 = .ok (.invokevirtual 83, 3) := by decide +kernel
theorem dX4_passHour_9 : decode cX4_passHour 9 = .ok (.invokevirtual 86, 3) := by decide +kernel
theorem dX4_passHour_12 : decode cX4_passHour 12 = .ok (.aload_n 0, 1) := by decide +kernel
theorem dX4_passHour_13 : decode cX4_passHour 13 = .ok (.dup, 1) := by decide +kernel
theorem dX4_passHour_14 : decode cX4_passHour 14 = .ok (.getfield 36, 3) := by decide +kernel
theorem dX4_passHour_17 : decode cX4_passHour 17 = .ok (.iconst 1, 1) := by decide +kernel
theorem dX4_passHour_18 : decode cX4_passHour 18 = .ok (.iadd, 1) := by decide +kernel
theorem dX4_passHour_19 : decode cX4_passHour 19 = .ok (.putfield 36, 3) := by decide +kernel
theorem dX4_passHour_22 : decode cX4_passHour 22 = .ok (.return_, 1) := by decide +kernel
theorem dX4_save_0 : decode cX4_save 0 = .ok (.aload_n 0, 1) := by decide +kernel
theorem dX4_save_1 : decode cX4_save 1 = .ok (.getfield 28, 3) := by decide +kernel
theorem dX4_save_4 : decode cX4_save 4 = .ok (.getfield 90, 3) := by decide +kernel
theorem dX4_save_7 : decode cX4_save 7 = .ok (.iconst 0, 1) := by decide +kernel
theorem dX4_save_8 : decode cX4_save 8 = .ok (.aload_n 1, 1) := by decide +kernel
theorem dX4_save_9 : decode cX4_save 9 = .ok (.iload_n 2, 1) := by decide +kernel
theorem dX4_save_10 : decode cX4_save 10 = .ok (.iconst 3, 1) := by decide +kernel
theorem dX4_save_11 : decode cX4_save 11 = .ok (.invokestatic 51, 3) := by decide +kernel
theorem dX4_save_14 : decode cX4_save 14 = .ok (.aload_n 0, 1) := by decide +kernel
theorem dX4_save_15 : decode cX4_save 15 = .ok (.getfield 28, 3) := by decide +kernel
theorem dX4_save_18 : decode cX4_save 18 = .ok (.getfield 93, 3) := by decide +kernel
theorem dX4_save_21 : decode cX4_save 21 = .ok (.iconst 0, 1) := by decide +kernel
theorem dX4_save_22 : decode cX4_save 22 = .ok (.aload_n 1, 1) := by decide +kernel
theorem dX4_save_23 : decode cX4_save 23 = .ok (.iload_n 2, 1) := by decide +kernel
theorem dX4_save_24 : decode cX4_save 24 = .ok (.iconst 3, 1) := by decide +kernel
theorem dX4_save_25 : decode cX4_save 25 = .ok (.iadd, 1) := by decide +kernel
theorem dX4_save_26 : decode cX4_save 26 = .ok (.iconst 3, 1) := by decide +kernel
theorem dX4_save_27 : decode cX4_save 27 = .ok (.invokestatic 51, 3) := by decide +kernel
theorem dX4_save_30 : decode cX4_save 30 = .ok (.aload_n 0, 1) := by decide +kernel
theorem dX4_save_31 : decode cX4_save 31 = .ok (.getfield 22, 3) := by decide +kernel
theorem dX4_save_34 : decode cX4_save 34 = .ok (.iconst 0, 1) := by decide +kernel
theorem dX4_save_35 : decode cX4_save 35 = .ok (.aload_n 1, 1) := by decide +kernel
theorem dX4_save_36 : decode cX4_save 36 = .ok (.iload_n 2, 1) := by decide +kernel
theorem dX4_save_37 : decode cX4_save 37 = .ok (.bipush 6, 2) := by decide +kernel
theorem dX4_save_39 : decode cX4_save 39 = .ok (.iadd, 1) := by decide +kernel
theorem dX4_save_40 : decode cX4_save 40 = .ok (.bipush 7, 2) := by decide +kernel
theorem dX4_save_42 : decode cX4_save 42 = .ok (.invokestatic 51, 3) := by decide +kernel
theorem dX4_save_45 : decode cX4_save 45 = .ok (.aload_n 1, 1) := by decide +kernel
theorem dX4_save_46 : decode cX4_save 46 = .ok (.iload_n 2, 1) := by decide +kernel
theorem dX4_save_47 : decode cX4_save 47 = .ok (.bipush 15, 2) := by decide +kernel
theorem dX4_save_49 : decode cX4_save 49 = .ok (.iadd, 1) := by decide +kernel
theorem dX4_save_50 : decode cX4_save 50 = .ok (.iconst 2, 1) := by decide +kernel
theorem dX4_save_51 : decode cX4_save 51 = .ok (.isub, 1) := by decide +kernel
theorem dX4_save_52 : decode cX4_save 52 = .ok (.aload_n 0, 1) := by decide +kernel
theorem dX4_save_53 : decode cX4_save 53 = .ok (.getfield 36, 3) := by decide +kernel
theorem dX4_save_56 : decode cX4_save 56 = .ok (.iastore, 1) := by decide +kernel
theorem dX4_save_57 : decode cX4_save 57 = .ok (.aload_n 1, 1) := by decide +kernel
theorem dX4_save_58 : decode cX4_save 58 = .ok (.iload_n 2, 1) := by decide +kernel
theorem dX4_save_59 : decode cX4_save 59 = .ok (.bipush 15, 2) := by decide +kernel
theorem dX4_save_61 : decode cX4_save 61 = .ok (.iadd, 1) := by decide +kernel
theorem dX4_save_62 : decode cX4_save 62 = .ok (.iconst 1, 1) := by decide +kernel
theorem dX4_save_63 : decode cX4_save 63 = .ok (.isub, 1) := by decide +kernel
theorem dX4_save_64 : decode cX4_save 64 = .ok (.aload_n 0, 1) := by decide +kernel
theorem dX4_save_65 : decode cX4_save 65 = .ok (.getfield 42, 3) := by decide +kernel
theorem dX4_save_68 : decode cX4_save 68 = .ok (.iastore, 1) := by decide +kernel
theorem dX4_save_69 : decode cX4_save 69 = .ok (.return_, 1) := by decide +kernel
theorem dX4_load_0 : decode cX4_load 0 = .ok (.aload_n 1, 1) := by decide +kernel
theorem dX4_load_1 : decode cX4_load 1 = .ok (.iload_n 2, 1) := by decide +kernel
theorem dX4_load_2 : decode cX4_load 2 = .ok (.aload_n 0, 1) := by decide +kernel
theorem dX4_load_3 : decode cX4_load 3 = .ok (.getfield 28, 3) := by decide +kernel
theorem dX4_load_6 : decode cX4_load 6 = .ok (.getfield 90, 3) := by decide +kernel
theorem dX4_load_9 : decode cX4_load 9 = .ok (.iconst 0, 1) := by decide +kernel
theorem dX4_load_10 : decode cX4_load 10 = .ok (.iconst 3, 1) := by decide +kernel
theorem dX4_load_11 : decode cX4_load 11 = .ok (.invokestatic 51, 3) := by decide +kernel
theorem dX4_load_14 : decode cX4_load 14 = .ok (.aload_n 1, 1) := by decide +kernel
theorem dX4_load_15 : decode cX4_load 15 = .ok (.iload_n 2, 1) := by decide +kernel
theorem dX4_load_16 : decode cX4_load 16 = .ok (.iconst 3, 1) := by decide +kernel
theorem dX4_load_17 : decode cX4_load 17 = .ok (.iadd, 1) := by decide +kernel
theorem dX4_load_18 : decode cX4_load 18 = .ok (.aload_n 0, 1) := by decide +kernel
theorem dX4_load_19 : decode cX4_load 19 = .ok (.getfield 28, 3) := by decide +kernel
theorem dX4_load_22 : decode cX4_load 22 = .ok (.getfield 93, 3) := by decide +kernel
theorem dX4_load_25 : decode cX4_load 25 = .ok (.iconst 0, 1) := by decide +kernel
theorem dX4_load_26 : decode cX4_load 26 = .ok (.iconst 3, 1) := by decide +kernel
theorem dX4_load_27 : decode cX4_load 27 = .ok (.invokestatic 51, 3) := by decide +kernel
theorem dX4_load_30 : decode cX4_load 30 = .ok (.aload_n 1, 1) := by decide +kernel
theorem dX4_load_31 : decode cX4_load 31 = .ok (.iload_n 2, 1) := by decide +kernel
theorem dX4_load_32 : decode cX4_load 32 = .ok (.bipush 6, 2) := by decide +kernel
theorem dX4_load_34 : decode cX4_load 34 = .ok (.iadd, 1) := by decide +kernel
theorem dX4_load_35 : decode cX4_load 35 = .ok (.aload_n 0, 1) := by decide +kernel
theorem dX4_load_36 : decode cX4_load 36 = .ok (.getfield 22, 3) := by decide +kernel
theorem dX4_load_39 : decode cX4_load 39 = .ok (.iconst 0, 1) := by decide +kernel
theorem dX4_load_40 : decode cX4_load 40 = .ok (.bipush 7, 2) := by decide +kernel
theorem dX4_load_42 : decode cX4_load 42 = .ok (.invokestatic 51, 3) := by decide +kernel
theorem dX4_load_45 : decode cX4_load 45 = .ok (.aload_n 0, 1) := by decide +kernel
theorem dX4_load_46 : decode cX4_load 46 = .ok (.aload_n 1, 1) := by decide +kernel
theorem dX4_load_47 : decode cX4_load 47 = .ok (.iload_n 2, 1) := by decide +kernel
theorem dX4_load_48 : decode cX4_load 48 = .ok (.bipush 15, 2) := by decide +kernel
theorem dX4_load_50 : decode cX4_load 50 = .ok (.iadd, 1) := by decide +kernel
theorem dX4_load_51 : decode cX4_load 51 = .ok (.iconst 2, 1) := by decide +kernel
theorem dX4_load_52 : decode cX4_load 52 = .ok (.isub, 1) := by decide +kernel
theorem dX4_load_53 : decode cX4_load 53 = .ok (.iaload, 1) := by decide +kernel
theorem dX4_load_54 : decode cX4_load 54 = .ok (.putfield 36, 3) := by decide +kernel
theorem dX4_load_57 : decode cX4_load 57 = .ok (.aload_n 0, 1) := by decide +kernel
theorem dX4_load_58 : decode cX4_load 58 = .ok (.aload_n 1, 1) := by decide +kernel
theorem dX4_load_59 : decode cX4_load 59 = .ok (.iload_n 2, 1) := by decide +kernel
theorem dX4_load_60 : decode cX4_load 60 = .ok (.bipush 15, 2) := by decide +kernel
theorem dX4_load_62 : decode cX4_load 62 = .ok (.iadd, 1) := by decide +kernel
theorem dX4_load_63 : decode cX4_load 63 = .ok (.iconst 1, 1) := by decide +kernel
theorem dX4_load_64 : decode cX4_load 64 = .ok (.isub, 1) := by decide +kernel
theorem dX4_load_65 : decode cX4_load 65 = .ok (.iaload, 1) := by decide +kernel
theorem dX4_load_66 : decode cX4_load 66 = .ok (.putfield 42, 3) := by decide +kernel
theorem dX4_load_69 : decode cX4_load 69 = .ok (.return_, 1) := by decide +kernel
theorem dX5_init_0 : decode cX5_init 0 = .ok (.aload_n 0, 1) := by decide +kernel
theorem dX5_init_1 : decode cX5_init 1 = .ok (.invokespecial 3, 3) := by decide +kernel
theorem dX5_init_4 : decode cX5_init 4 = .ok (.aload_n 0, 1) := by decide +kernel
theorem dX5_init_5 : decode cX5_init 5 = .ok (.iconst 3, 1) := by decide +kernel
theorem dX5_init_6 : decode cX5_init 6 = .ok (.newarray .int, 2) := by decide +kernel
theorem dX5_init_8 : decode cX5_init 8 = .ok (.putfield 9, 3) := by decide +kernel
theorem dX5_init_11 : decode cX5_init 11 = .ok (.aload_n 0, 1) := by decide +kernel
theorem dX5_init_12 : decode cX5_init 12 = .ok (.iconst 3, 1) := by decide +kernel
theorem dX5_init_13 : decode cX5_init 13 = .ok (.newarray .int, 2) := by decide +kernel
theorem dX5_init_15 : decode cX5_init 15 = .ok (.putfield 15, 3) := by decide +kernel
theorem dX5_init_18 : decode cX5_init 18 = .ok (.return_, 1) := by decide +kernel
theorem dX5_copyFrom_0 : decode cX5_copyFrom 0 = .ok (.aload_n 1, 1) := by decide +kernel
theorem dX5_copyFrom_1 : decode cX5_copyFrom 1 = .ok (.getfield 9, 3) := by decide +kernel
theorem dX5_copyFrom_4 : decode cX5_copyFrom 4 = .ok (.iconst 0, 1) := by decide +kernel
theorem dX5_copyFrom_5 : decode cX5_copyFrom 5 = .ok (.aload_n 0, 1) := by decide +kernel
theorem dX5_copyFrom_6 : decode cX5_copyFrom 6 = .ok (.getfield 9, 3) := by decide +kernel
theorem dX5_copyFrom_9 : decode cX5_copyFrom 9 = .ok (.iconst 0, 1) := by decide +kernel
theorem dX5_copyFrom_10 : decode cX5_copyFrom 10 = .ok (.iconst 3, 1) := by decide +kernel
theorem dX5_copyFrom_11 : decode cX5_copyFrom 11 = .ok (.invokestatic 18, 3) := by decide +kernel
theorem dX5_copyFrom_14 : decode cX5_copyFrom 14 = .ok (.aload_n 1, 1) := by decide +kernel
theorem dX5_copyFrom_15 : decode cX5_copyFrom 15 = .ok (.getfield 15, 3) := by decide +kernel
theorem dX5_copyFrom_18 : decode cX5_copyFrom 18 = .ok (.iconst 0, 1) := by decide +kernel
theorem dX5_copyFrom_19 : decode cX5_copyFrom 19 = .ok (.aload_n 0, 1) := by decide +kernel
theorem dX5_copyFrom_20 : decode cX5_copyFrom 20 = .ok (.getfield 15, 3) := by decide +kernel
theorem dX5_copyFrom_23 : decode cX5_copyFrom 23 = .ok (.iconst 0, 1) := by decide +kernel
theorem dX5_copyFrom_24 : decode cX5_copyFrom 24 = .ok (.iconst 3, 1) := by decide +kernel
theorem dX5_copyFrom_25 : decode cX5_copyFrom 25 = .ok (.invokestatic 18, 3) := by decide +kernel
theorem dX5_copyFrom_28 : decode cX5_copyFrom 28 = .ok (.return_, 1) := by decide +kernel
theorem dX5_side_0 : decode cX5_side 0 = .ok (.aload_n 0, 1) := by decide +kernel
theorem dX5_side_1 : decode cX5_side 1 = .ok (.getfield 9, 3) := by decide +kernel
theorem dX5_side_4 : decode cX5_side 4 = .ok (.iconst 0, 1) := by decide +kernel
theorem dX5_side_5 : decode cX5_side 5 = .ok (.iaload, 1) := by decide +kernel
theorem dX5_side_6 : decode cX5_side 6 = .ok (.aload_n 0, 1) := by decide +kernel
theorem dX5_side_7 : decode cX5_side 7 = .ok (.getfield 9, 3) := by decide +kernel
theorem dX5_side_10 : decode cX5_side 10 = .ok (.iconst 1, 1) := by decide +kernel
theorem dX5_side_11 : decode cX5_side 11 = .ok (.iaload, 1) := by decide +kernel
theorem dX5_side_12 : decode cX5_side 12 = .ok (.isub, 1) := by decide +kernel
theorem dX5_side_13 : decode cX5_side 13 = .ok (.ireturn, 1) := by decide +kernel
theorem dX5_middle_0 : decode cX5_middle 0 = .ok (.aload_n 0, 1) := by decide +kernel
theorem dX5_middle_1 : decode cX5_middle 1 = .ok (.getfield 9, 3) := by decide +kernel
theorem dX5_middle_4 : decode cX5_middle 4 = .ok (.iconst 0, 1) := by decide +kernel
theorem dX5_middle_5 : decode cX5_middle 5 = .ok (.iaload, 1) := by decide +kernel
theorem dX5_middle_6 : decode cX5_middle 6 = .ok (.aload_n 0, 1) := by decide +kernel
theorem dX5_middle_7 : decode cX5_middle 7 = .ok (.getfield 9, 3) := by decide +kernel
theorem dX5_middle_10 : decode cX5_middle 10 = .ok (.iconst 1, 1) := by decide +kernel
theorem dX5_middle_11 : decode cX5_middle 11 = .ok (.iaload, 1) := by decide +kernel
theorem dX5_middle_12 : decode cX5_middle 12 = .ok (.iadd, 1) := by decide +kernel
theorem dX5_middle_13 : decode cX5_middle 13 = .ok (.iconst 2, 1) := by decide +kernel
theorem dX5_middle_14 : decode cX5_middle 14 = .ok (.idiv, 1) := by decide +kernel
theorem dX5_middle_15 : decode cX5_middle 15 = .ok (.ireturn, 1) := by decide +kernel
theorem dX5_along_0 : decode cX5_along 0 = .ok (.aload_n 0, 1) := by decide +kernel
theorem dX5_along_1 : decode cX5_along 1 = .ok (.getfield 9, 3) := by decide +kernel
theorem dX5_along_4 : decode cX5_along 4 = .ok (.iconst 2, 1) := by decide +kernel
theorem dX5_along_5 : decode cX5_along 5 = .ok (.iaload, 1) := by decide +kernel
theorem dX5_along_6 : decode cX5_along 6 = .ok (.aload_n 0, 1) := by decide +kernel
theorem dX5_along_7 : decode cX5_along 7 = .ok (.invokevirtual 24, 3) := by decide +kernel
theorem dX5_along_10 : decode cX5_along 10 = .ok (.isub, 1) := by decide +kernel
theorem dX5_along_11 : decode cX5_along 11 = .ok (.ireturn, 1) := by decide +kernel
theorem dX5_tilt_0 : decode cX5_tilt 0 = .ok (.iload_n 1, 1) := by decide +kernel
theorem dX5_tilt_1 : decode cX5_tilt 1 = .ok (.ifCond .ne 10, 3) := by decide +kernel
theorem dX5_tilt_4 : decode cX5_tilt 4 = .ok (.aload_n 0, 1) := by decide +kernel
theorem dX5_tilt_5 : decode cX5_tilt 5 = .ok (.invokevirtual 28, 3) := by decide +kernel
theorem dX5_tilt_8 : decode cX5_tilt 8 = .ok (.goto 7, 3) := by decide +kernel
theorem dX5_tilt_11 : decode cX5_tilt 11 = .ok (.aload_n 0, 1) := by decide +kernel
theorem dX5_tilt_12 : decode cX5_tilt 12 = .ok (.invokevirtual 31, 3) := by decide +kernel
theorem dX5_tilt_15 : decode cX5_tilt 15 = .ok (.ireturn, 1) := by decide +kernel
theorem dX5_awry_0 : decode cX5_awry 0 = .ok (.aload_n 0, 1) := by decide +kernel
theorem dX5_awry_1 : decode cX5_awry 1 = .ok (.invokevirtual 28, 3) := by decide +kernel
theorem dX5_awry_4 : decode cX5_awry 4 = .ok (.invokestatic 34, 3) := by decide +kernel
theorem dX5_awry_7 : decode cX5_awry 7 = .ok (.aload_n 0, 1) := by decide +kernel
theorem dX5_awry_8 : decode cX5_awry 8 = .ok (.invokevirtual 31, 3) := by decide +kernel
theorem dX5_awry_11 : decode cX5_awry 11 = .ok (.invokestatic 34, 3) := by decide +kernel
theorem dX5_awry_14 : decode cX5_awry 14 = .ok (.iadd, 1) := by decide +kernel
theorem dX5_awry_15 : decode cX5_awry 15 = .ok (.ireturn, 1) := by decide +kernel
theorem dX5_allHeights_0 : decode cX5_allHeights 0 = .ok (.aload_n 0, 1) := by decide +kernel
theorem dX5_allHeights_1 : decode cX5_allHeights 1 = .ok (.getfield 9, 3) := by decide +kernel
theorem dX5_allHeights_4 : decode cX5_allHeights 4 = .ok (.iconst 0, 1) := by decide +kernel
theorem dX5_allHeights_5 : decode cX5_allHeights 5 = .ok (.iaload, 1) := by decide +kernel
theorem dX5_allHeights_6 : decode cX5_allHeights 6 = .ok (.aload_n 0, 1) := by decide +kernel
theorem dX5_allHeights_7 : decode cX5_allHeights 7 = .ok (.getfield 9, 3) := by decide +kernel
theorem dX5_allHeights_10 : decode cX5_allHeights 10 = .ok (.iconst 1, 1) := by decide +kernel
theorem dX5_allHeights_11 : decode cX5_allHeights 11 = .ok (.iaload, 1) := by decide +kernel
theorem dX5_allHeights_12 : decode cX5_allHeights 12 = .ok (.iadd, 1) := by decide +kernel
theorem dX5_allHeights_13 : decode cX5_allHeights 13 = .ok (.aload_n 0, 1) := by decide +kernel
theorem dX5_allHeights_14 : decode cX5_allHeights 14 = .ok (.getfield 9, 3) := by decide +kernel
theorem dX5_allHeights_17 : decode cX5_allHeights 17 = .ok (.iconst 2, 1) := by decide +kernel
theorem dX5_allHeights_18 : decode cX5_allHeights 18 = .ok (.iaload, 1) := by decide +kernel
theorem dX5_allHeights_19 : decode cX5_allHeights 19 = .ok (.iadd, 1) := by decide +kernel
theorem dX5_allHeights_20 : decode cX5_allHeights 20 = .ok (.ireturn, 1) := by decide +kernel
theorem dX5_shift_0 : decode cX5_shift 0 = .ok (.aload_n 0, 1) := by decide +kernel
theorem dX5_shift_1 : decode cX5_shift 1 = .ok (.getfield 9, 3) := by decide +kernel
theorem dX5_shift_4 : decode cX5_shift 4 = .ok (.iload_n 1, 1) := by decide +kernel
theorem dX5_shift_5 : decode cX5_shift 5 = .ok (.iconst 0, 1) := by decide +kernel
theorem dX5_shift_6 : decode cX5_shift 6 = .ok (.bipush 99, 2) := by decide +kernel
theorem dX5_shift_8 : decode cX5_shift 8 = .ok (.aload_n 0, 1) := by decide +kernel
theorem dX5_shift_9 : decode cX5_shift 9 = .ok (.getfield 9, 3) := by decide +kernel
theorem dX5_shift_12 : decode cX5_shift 12 = .ok (.iload_n 1, 1) := by decide +kernel
theorem dX5_shift_13 : decode cX5_shift 13 = .ok (.iaload, 1) := by decide +kernel
theorem dX5_shift_14 : decode cX5_shift 14 = .ok (.iload_n 2, 1) := by decide +kernel
theorem dX5_shift_15 : decode cX5_shift 15 = .ok (.iadd, 1) := by decide +kernel
theorem dX5_shift_16 : decode cX5_shift 16 = .ok (.invokestatic 40, 3) := by decide +kernel
theorem dX5_shift_19 : decode cX5_shift 19 = .ok (.invokestatic 44, 3) := by decide +kernel
theorem dX5_shift_22 : decode cX5_shift 22 = .ok (.iastore, 1) := by decide +kernel
theorem dX5_shift_23 : decode cX5_shift 23 = .ok (.return_, 1) := by decide +kernel
theorem dX5_soften_0 : decode cX5_soften 0 = .ok (.aload_n 0, 1) := by decide +kernel
theorem dX5_soften_1 : decode cX5_soften 1 = .ok (.getfield 15, 3) := by decide +kernel
theorem dX5_soften_4 : decode cX5_soften 4 = .ok (.iload_n 1, 1) := by decide +kernel
theorem dX5_soften_5 : decode cX5_soften 5 = .ok (.iconst 0, 1) := by decide +kernel
theorem dX5_soften_6 : decode cX5_soften 6 = .ok (.bipush 9, 2) := by decide +kernel
theorem dX5_soften_8 : decode cX5_soften 8 = .ok (.aload_n 0, 1) := by decide +kernel
theorem dX5_soften_9 : decode cX5_soften 9 = .ok (.getfield 15, 3) := by decide +kernel
theorem dX5_soften_12 : decode cX5_soften 12 = .ok (.iload_n 1, 1) := by decide +kernel
theorem dX5_soften_13 : decode cX5_soften 13 = .ok (.iaload, 1) := by decide +kernel
theorem dX5_soften_14 : decode cX5_soften 14 = .ok (.iload_n 2, 1) := by decide +kernel
theorem dX5_soften_15 : decode cX5_soften 15 = .ok (.iadd, 1) := by decide +kernel
theorem dX5_soften_16 : decode cX5_soften 16 = .ok (.invokestatic 40, 3) := by decide +kernel
theorem dX5_soften_19 : decode cX5_soften 19 = .ok (.invokestatic 44, 3) := by decide +kernel
theorem dX5_soften_22 : decode cX5_soften 22 = .ok (.iastore, 1) := by decide +kernel
theorem dX5_soften_23 : decode cX5_soften 23 = .ok (.return_, 1) := by decide +kernel
theorem dX5_sink_0 : decode cX5_sink 0 = .ok (.iconst 0, 1) := by decide +kernel
theorem dX5_sink_1 : decode cX5_sink 1 = .ok (.istore_n 2, 1) := by decide +kernel
theorem dX5_sink_2 : decode cX5_sink 2 = .ok (.iload_n 2, 1) := by decide +kernel
theorem dX5_sink_3 : decode cX5_sink 3 = .ok (.iconst 3, 1) := by decide +kernel
theorem dX5_sink_4 : decode cX5_sink 4 = .ok (.if_icmp .ge 23, 3) := by decide +kernel
theorem dX5_sink_7 : decode cX5_sink 7 = .ok (.aload_n 0, 1) := by decide +kernel
theorem dX5_sink_8 : decode cX5_sink 8 = .ok (.iload_n 2, 1) := by decide +kernel
theorem dX5_sink_9 : decode cX5_sink 9 = .ok (.aload_n 0, 1) := by decide +kernel
theorem dX5_sink_10 : decode cX5_sink 10 = .ok (.getfield 15, 3) := by decide +kernel
theorem dX5_sink_13 : decode cX5_sink 13 = .ok (.iload_n 2, 1) := by decide +kernel
theorem dX5_sink_14 : decode cX5_sink 14 = .ok (.iaload, 1) := by decide +kernel
theorem dX5_sink_15 : decode cX5_sink 15 = .ok (.ineg, 1) := by decide +kernel
theorem dX5_sink_16 : decode cX5_sink 16 = .ok (.iload_n 1, 1) := by decide +kernel
theorem dX5_sink_17 : decode cX5_sink 17 = .ok (.imul, 1) := by decide +kernel
theorem dX5_sink_18 : decode cX5_sink 18 = .ok (.invokevirtual 47, 3) := by decide +kernel
theorem dX5_sink_21 : decode cX5_sink 21 = .ok (.iinc 2 1, 3) := by decide +kernel
theorem dX5_sink_24 : decode cX5_sink 24 = .ok (.goto (-22), 3) := by decide +kernel
theorem dX5_sink_27 : decode cX5_sink 27 = .ok (.return_, 1) := by decide +kernel
theorem dX5_enact_0 : decode cX5_enact 0 = .ok (.iload_n 1, 1) := by decide +kernel
theorem dX5_enact_1 : decode cX5_enact 1 = .ok (.tableswitch 94 1 5 #[35, 44, 57, 72, 80], 35) := by decide +kernel
theorem dX5_enact_36 : decode cX5_enact 36 = .ok (.aload_n 0, 1) := by decide +kernel
theorem dX5_enact_37 : decode cX5_enact 37 = .ok (.iload_n 2, 1) := by decide +kernel
theorem dX5_enact_38 : decode cX5_enact 38 = .ok (.iload_n 3, 1) := by decide +kernel
theorem dX5_enact_39 : decode cX5_enact 39 = .ok (.invokevirtual 47, 3) := by decide +kernel
theorem dX5_enact_42 : decode cX5_enact 42 = .ok (.goto 53, 3) := by decide +kernel
theorem dX5_enact_45 : decode cX5_enact 45 = .ok (.aload_n 0, 1) := by decide +kernel
theorem dX5_enact_46 : decode cX5_enact 46 = .ok (.iload_n 2, 1) := by decide +kernel
theorem dX5_enact_47 : decode cX5_enact 47 = .ok (.iload_n 3, 1) := by decide +kernel
theorem dX5_enact_48 : decode cX5_enact 48 = .ok (.iconst 2, 1) := by decide +kernel
theorem dX5_enact_49 : decode cX5_enact 49 = .ok (.idiv, 1) := by decide +kernel
theorem dX5_enact_50 : decode cX5_enact 50 = .ok (.iconst 1, 1) := by decide +kernel
theorem dX5_enact_51 : decode cX5_enact 51 = .ok (.iadd, 1) := by decide +kernel
theorem dX5_enact_52 : decode cX5_enact 52 = .ok (.invokevirtual 47, 3) := by decide +kernel
theorem dX5_enact_55 : decode cX5_enact 55 = .ok (.goto 40, 3) := by decide +kernel
theorem dX5_enact_58 : decode cX5_enact 58 = .ok (.aload_n 0, 1) := by decide +kernel
theorem dX5_enact_59 : decode cX5_enact 59 = .ok (.iload_n 2, 1) := by decide +kernel
theorem dX5_enact_60 : decode cX5_enact 60 = .ok (.iload_n 3, 1) := by decide +kernel
theorem dX5_enact_61 : decode cX5_enact 61 = .ok (.invokevirtual 47, 3) := by decide +kernel
theorem dX5_enact_64 : decode cX5_enact 64 = .ok (.aload_n 0, 1) := by decide +kernel
theorem dX5_enact_65 : decode cX5_enact 65 = .ok (.iload_n 2, 1) := by decide +kernel
theorem dX5_enact_66 : decode cX5_enact 66 = .ok (.iconst 1, 1) := by decide +kernel
theorem dX5_enact_67 : decode cX5_enact 67 = .ok (.invokevirtual 51, 3) := by decide +kernel
theorem dX5_enact_70 : decode cX5_enact 70 = .ok (.goto 25, 3) := by decide +kernel
theorem dX5_enact_73 : decode cX5_enact 73 = .ok (.aload_n 0, 1) := by decide +kernel
theorem dX5_enact_74 : decode cX5_enact 74 = .ok (.iload_n 3, 1) := by decide +kernel
theorem dX5_enact_75 : decode cX5_enact 75 = .ok (.invokevirtual 54, 3) := by decide +kernel
theorem dX5_enact_78 : decode cX5_enact 78 = .ok (.goto 17, 3) := by decide +kernel
theorem dX5_enact_81 : decode cX5_enact 81 = .ok (.aload_n 0, 1) := by decide +kernel
theorem dX5_enact_82 : decode cX5_enact 82 = .ok (.invokevirtual 58, 3) := by decide +kernel
theorem dX5_enact_85 : decode cX5_enact 85 = .ok (.aload_n 0, 1) := by decide +kernel
theorem dX5_enact_86 : decode cX5_enact 86 = .ok (.iload_n 3, 1) := by decide +kernel
theorem dX5_enact_87 : decode cX5_enact 87 = .ok (.iconst 2, 1) := by decide +kernel
theorem dX5_enact_88 : decode cX5_enact 88 = .ok (.idiv, 1) := by decide +kernel
theorem dX5_enact_89 : decode cX5_enact 89 = .ok (.invokevirtual 54, 3) := by decide +kernel
theorem dX5_enact_92 : decode cX5_enact 92 = .ok (.goto 3, 3) := by decide +kernel
theorem dX5_enact_95 : decode cX5_enact 95 = .ok (.return_, 1) := by decide +kernel
theorem dX5_wind_0 : decode cX5_wind 0 = .ok (.aload_n 0, 1) := by decide +kernel
theorem dX5_wind_1 : decode cX5_wind 1 = .ok (.iconst 2, 1) := by decide +kernel
theorem dX5_wind_2 : decode cX5_wind 2 = .ok (.aload_n 0, 1) := by decide +kernel
theorem dX5_wind_3 : decode cX5_wind 3 = .ok (.invokevirtual 31, 3) := by decide +kernel
theorem dX5_wind_6 : decode cX5_wind 6 = .ok (.ifCond .ge 7, 3) := by decide +kernel
theorem dX5_wind_9 : decode cX5_wind 9 = .ok (.iload_n 1, 1) := by decide +kernel
theorem dX5_wind_10 : decode cX5_wind 10 = .ok (.goto 5, 3) := by decide +kernel
theorem dX5_wind_13 : decode cX5_wind 13 = .ok (.iload_n 1, 1) := by decide +kernel
theorem dX5_wind_14 : decode cX5_wind 14 = .ok (.ineg, 1) := by decide +kernel
theorem dX5_wind_15 : decode cX5_wind 15 = .ok (.invokevirtual 47, 3) := by decide +kernel
theorem dX5_wind_18 : decode cX5_wind 18 = .ok (.return_, 1) := by decide +kernel
theorem dX5_changeWheels_0 : decode cX5_changeWheels 0 = .ok (.aload_n 0, 1) := by decide +kernel
theorem dX5_changeWheels_1 : decode cX5_changeWheels 1 = .ok (.getfield 9, 3) := by decide +kernel
theorem dX5_changeWheels_4 : decode cX5_changeWheels 4 = .ok (.iconst 0, 1) := by decide +kernel
theorem dX5_changeWheels_5 : decode cX5_changeWheels 5 = .ok (.iaload, 1) := by decide +kernel
theorem dX5_changeWheels_6 : decode cX5_changeWheels 6 = .ok (.istore_n 1, 1) := by decide +kernel
theorem dX5_changeWheels_7 : decode cX5_changeWheels 7 = .ok (.aload_n 0, 1) := by decide +kernel
theorem dX5_changeWheels_8 : decode cX5_changeWheels 8 = .ok (.getfield 15, 3) := by decide +kernel
theorem dX5_changeWheels_11 : decode cX5_changeWheels 11 = .ok (.iconst 0, 1) := by decide +kernel
theorem dX5_changeWheels_12 : decode cX5_changeWheels 12 = .ok (.iaload, 1) := by decide +kernel
theorem dX5_changeWheels_13 : decode cX5_changeWheels 13 = .ok (.istore_n 2, 1) := by decide +kernel
theorem dX5_changeWheels_14 : decode cX5_changeWheels 14 = .ok (.aload_n 0, 1) := by decide +kernel
theorem dX5_changeWheels_15 : decode cX5_changeWheels 15 = .ok (.getfield 9, 3) := by decide +kernel
theorem dX5_changeWheels_18 : decode cX5_changeWheels 18 = .ok (.iconst 0, 1) := by decide +kernel
theorem dX5_changeWheels_19 : decode cX5_changeWheels 19 = .ok (.aload_n 0, 1) := by decide +kernel
theorem dX5_changeWheels_20 : decode cX5_changeWheels 20 = .ok (.getfield 9, 3) := by decide +kernel
theorem dX5_changeWheels_23 : decode cX5_changeWheels 23 = .ok (.iconst 1, 1) := by decide +kernel
theorem dX5_changeWheels_24 : decode cX5_changeWheels 24 = .ok (.iaload, 1) := by decide +kernel
theorem dX5_changeWheels_25 : decode cX5_changeWheels 25 = .ok (.iastore, 1) := by decide +kernel
theorem dX5_changeWheels_26 : decode cX5_changeWheels 26 = .ok (.aload_n 0, 1) := by decide +kernel
theorem dX5_changeWheels_27 : decode cX5_changeWheels 27 = .ok (.getfield 15, 3) := by decide +kernel
theorem dX5_changeWheels_30 : decode cX5_changeWheels 30 = .ok (.iconst 0, 1) := by decide +kernel
theorem dX5_changeWheels_31 : decode cX5_changeWheels 31 = .ok (.aload_n 0, 1) := by decide +kernel
theorem dX5_changeWheels_32 : decode cX5_changeWheels 32 = .ok (.getfield 15, 3) := by decide +kernel
theorem dX5_changeWheels_35 : decode cX5_changeWheels 35 = .ok (.iconst 1, 1) := by decide +kernel
theorem dX5_changeWheels_36 : decode cX5_changeWheels 36 = .ok (.iaload, 1) := by decide +kernel
theorem dX5_changeWheels_37 : decode cX5_changeWheels 37 = .ok (.iastore, 1) := by decide +kernel
theorem dX5_changeWheels_38 : decode cX5_changeWheels 38 = .ok (.aload_n 0, 1) := by decide +kernel
theorem dX5_changeWheels_39 : decode cX5_changeWheels 39 = .ok (.getfield 9, 3) := by decide +kernel
theorem dX5_changeWheels_42 : decode cX5_changeWheels 42 = .ok (.iconst 1, 1) := by decide +kernel
theorem dX5_changeWheels_43 : decode cX5_changeWheels 43 = .ok (.iload_n 1, 1) := by decide +kernel
theorem dX5_changeWheels_44 : decode cX5_changeWheels 44 = .ok (.iastore, 1) := by decide +kernel
theorem dX5_changeWheels_45 : decode cX5_changeWheels 45 = .ok (.aload_n 0, 1) := by decide +kernel
theorem dX5_changeWheels_46 : decode cX5_changeWheels 46 = .ok (.getfield 15, 3) := by decide +kernel
theorem dX5_changeWheels_49 : decode cX5_changeWheels 49 = .ok (.iconst 1, 1) := by decide +kernel
theorem dX5_changeWheels_50 : decode cX5_changeWheels 50 = .ok (.iload_n 2, 1) := by decide +kernel
theorem dX5_changeWheels_51 : decode cX5_changeWheels 51 = .ok (.iastore, 1) := by decide +kernel
theorem dX5_changeWheels_52 : decode cX5_changeWheels 52 = .ok (.return_, 1) := by decide +kernel
theorem dX6_init_0 : decode cX6_init 0 = .ok (.aload_n 0, 1) := by decide +kernel
theorem dX6_init_1 : decode cX6_init 1 = .ok (.invokespecial 3, 3) := by decide +kernel
theorem dX6_init_4 : decode cX6_init 4 = .ok (.aload_n 0, 1) := by decide +kernel
theorem dX6_init_5 : decode cX6_init 5 = .ok (.bipush 120, 2) := by decide +kernel
theorem dX6_init_7 : decode cX6_init 7 = .ok (.newarray .int, 2) := by decide +kernel
theorem dX6_init_9 : decode cX6_init 9 = .ok (.putfield 11, 3) := by decide +kernel
theorem dX6_init_12 : decode cX6_init 12 = .ok (.return_, 1) := by decide +kernel
theorem dX6_isFull_0 : decode cX6_isFull 0 = .ok (.aload_n 0, 1) := by decide +kernel
theorem dX6_isFull_1 : decode cX6_isFull 1 = .ok (.getfield 15, 3) := by decide +kernel
theorem dX6_isFull_4 : decode cX6_isFull 4 = .ok (.bipush 120, 2) := by decide +kernel
theorem dX6_isFull_6 : decode cX6_isFull 6 = .ok (.if_icmp .lt 7, 3) := by decide +kernel
theorem dX6_isFull_9 : decode cX6_isFull 9 = .ok (.iconst 1, 1) := by decide +kernel
theorem dX6_isFull_10 : decode cX6_isFull 10 = .ok (.goto 4, 3) := by decide +kernel
theorem dX6_isFull_13 : decode cX6_isFull 13 = .ok (.iconst 0, 1) := by decide +kernel
theorem dX6_isFull_14 : decode cX6_isFull 14 = .ok (.ireturn, 1) := by decide +kernel
theorem dX6_add_0 : decode cX6_add 0 = .ok (.aload_n 0, 1) := by decide +kernel
theorem dX6_add_1 : decode cX6_add 1 = .ok (.getfield 11, 3) := by decide +kernel
theorem dX6_add_4 : decode cX6_add 4 = .ok (.aload_n 0, 1) := by decide +kernel
theorem dX6_add_5 : decode cX6_add 5 = .ok (.dup, 1) := by decide +kernel
theorem dX6_add_6 : decode cX6_add 6 = .ok (.getfield 15, 3) := by decide +kernel
theorem dX6_add_9 : decode cX6_add 9 = .ok (.dup_x1, 1) := by decide +kernel
theorem dX6_add_10 : decode cX6_add 10 = .ok (.iconst 1, 1) := by decide +kernel
theorem dX6_add_11 : decode cX6_add 11 = .ok (.iadd, 1) := by decide +kernel
theorem dX6_add_12 : decode cX6_add 12 = .ok (.putfield 15, 3) := by decide +kernel
theorem dX6_add_15 : decode cX6_add 15 = .ok (.iload_n 1, 1) := by decide +kernel
theorem dX6_add_16 : decode cX6_add 16 = .ok (.iastore, 1) := by decide +kernel
theorem dX6_add_17 : decode cX6_add 17 = .ok (.aload_n 0, 1) := by decide +kernel
theorem dX6_add_18 : decode cX6_add 18 = .ok (.getfield 15, 3) := by decide +kernel
theorem dX6_add_21 : decode cX6_add 21 = .ok (.ireturn, 1) := by decide +kernel
theorem dX6_clear_0 : decode cX6_clear 0 = .ok (.aload_n 0, 1) := by decide +kernel
theorem dX6_clear_1 : decode cX6_clear 1 = .ok (.iconst 0, 1) := by decide +kernel
theorem dX6_clear_2 : decode cX6_clear 2 = .ok (.putfield 15, 3) := by decide +kernel
theorem dX6_clear_5 : decode cX6_clear 5 = .ok (.return_, 1) := by decide +kernel
theorem dX6_readInto_0 : decode cX6_readInto 0 = .ok (.aload_n 0, 1) := by decide +kernel
theorem dX6_readInto_1 : decode cX6_readInto 1 = .ok (.iconst 0, 1) := by decide +kernel
theorem dX6_readInto_2 : decode cX6_readInto 2 = .ok (.putfield 19, 3) := by decide +kernel
theorem dX6_readInto_5 : decode cX6_readInto 5 = .ok (.aload_n 0, 1) := by decide +kernel
theorem dX6_readInto_6 : decode cX6_readInto 6 = .ok (.iconst 0, 1) := by decide +kernel
theorem dX6_readInto_7 : decode cX6_readInto 7 = .ok (.putfield 22, 3) := by decide +kernel
theorem dX6_readInto_10 : decode cX6_readInto 10 = .ok (.aload_n 1, 1) := by decide +kernel
theorem dX6_readInto_11 : decode cX6_readInto 11 = .ok (.invokevirtual 25, 3) := by decide +kernel
theorem dX6_readInto_14 : decode cX6_readInto 14 = .ok (.aload_n 1, 1) := by decide +kernel
theorem dX6_readInto_15 : decode cX6_readInto 15 = .ok (.aload_n 0, 1) := by decide +kernel
theorem dX6_readInto_16 : decode cX6_readInto 16 = .ok (.aload_n 1, 1) := by decide +kernel
theorem dX6_readInto_17 : decode cX6_readInto 17 = .ok (.invokevirtual 30, 3) := by decide +kernel
theorem dX6_readInto_20 : decode cX6_readInto 20 = .ok (.ifCond .eq 26, 3) := by decide +kernel
theorem dX6_readInto_23 : decode cX6_readInto 23 = .ok (.aload_n 0, 1) := by decide +kernel
theorem dX6_readInto_24 : decode cX6_readInto 24 = .ok (.aload_n 1, 1) := by decide +kernel
theorem dX6_readInto_25 : decode cX6_readInto 25 = .ok (.getfield 34, 3) := by decide +kernel
theorem dX6_readInto_28 : decode cX6_readInto 28 = .ok (.invokevirtual 38, 3) := by decide +kernel
theorem dX6_readInto_31 : decode cX6_readInto 31 = .ok (.ifCond .eq 15, 3) := by decide +kernel
theorem dX6_readInto_34 : decode cX6_readInto 34 = .ok (.aload_n 0, 1) := by decide +kernel
theorem dX6_readInto_35 : decode cX6_readInto 35 = .ok (.aload_n 1, 1) := by decide +kernel
theorem dX6_readInto_36 : decode cX6_readInto 36 = .ok (.invokevirtual 42, 3) := by decide +kernel
theorem dX6_readInto_39 : decode cX6_readInto 39 = .ok (.ifCond .eq 7, 3) := by decide +kernel
theorem dX6_readInto_42 : decode cX6_readInto 42 = .ok (.iconst 1, 1) := by decide +kernel
theorem dX6_readInto_43 : decode cX6_readInto 43 = .ok (.goto 4, 3) := by decide +kernel
theorem dX6_readInto_46 : decode cX6_readInto 46 = .ok (.iconst 0, 1) := by decide +kernel
theorem dX6_readInto_47 : decode cX6_readInto 47 = .ok (.putfield 45, 3) := by decide +kernel
theorem dX6_readInto_50 : decode cX6_readInto 50 = .ok (.aload_n 1, 1) := by decide +kernel
theorem dX6_readInto_51 : decode cX6_readInto 51 = .ok (.getfield 45, 3) := by decide +kernel
theorem dX6_readInto_54 : decode cX6_readInto 54 = .ok (.ireturn, 1) := by decide +kernel
theorem dX6_readLaw_0 : decode cX6_readLaw 0 = .ok (.aload_n 0, 1) := by decide +kernel
theorem dX6_readLaw_1 : decode cX6_readLaw 1 = .ok (.bipush 110, 2) := by decide +kernel
theorem dX6_readLaw_3 : decode cX6_readLaw 3 = .ok (.invokevirtual 49, 3) := by decide +kernel
theorem dX6_readLaw_6 : decode cX6_readLaw 6 = .ok (.ifCond .ne 5, 3) := by decide +kernel
theorem dX6_readLaw_9 : decode cX6_readLaw 9 = .ok (.iconst 0, 1) := by decide +kernel
theorem dX6_readLaw_10 : decode cX6_readLaw 10 = .ok (.ireturn, 1) := by decide +kernel
theorem dX6_readLaw_11 : decode cX6_readLaw 11 = .ok (.aload_n 1, 1) := by decide +kernel
theorem dX6_readLaw_12 : decode cX6_readLaw 12 = .ok (.aload_n 0, 1) := by decide +kernel
theorem dX6_readLaw_13 : decode cX6_readLaw 13 = .ok (.iconst 0, 1) := by decide +kernel
theorem dX6_readLaw_14 : decode cX6_readLaw 14 = .ok (.bipush 9, 2) := by decide +kernel
theorem dX6_readLaw_16 : decode cX6_readLaw 16 = .ok (.bipush 44, 2) := by decide +kernel
theorem dX6_readLaw_18 : decode cX6_readLaw 18 = .ok (.invokevirtual 53, 3) := by decide +kernel
theorem dX6_readLaw_21 : decode cX6_readLaw 21 = .ok (.putfield 57, 3) := by decide +kernel
theorem dX6_readLaw_24 : decode cX6_readLaw 24 = .ok (.aload_n 0, 1) := by decide +kernel
theorem dX6_readLaw_25 : decode cX6_readLaw 25 = .ok (.getfield 22, 3) := by decide +kernel
theorem dX6_readLaw_28 : decode cX6_readLaw 28 = .ok (.ifCond .eq 5, 3) := by decide +kernel
theorem dX6_readLaw_31 : decode cX6_readLaw 31 = .ok (.iconst 0, 1) := by decide +kernel
theorem dX6_readLaw_32 : decode cX6_readLaw 32 = .ok (.ireturn, 1) := by decide +kernel
theorem dX6_readLaw_33 : decode cX6_readLaw 33 = .ok (.aload_n 1, 1) := by decide +kernel
theorem dX6_readLaw_34 : decode cX6_readLaw 34 = .ok (.aload_n 0, 1) := by decide +kernel
theorem dX6_readLaw_35 : decode cX6_readLaw 35 = .ok (.iconst 0, 1) := by decide +kernel
theorem dX6_readLaw_36 : decode cX6_readLaw 36 = .ok (.bipush 9, 2) := by decide +kernel
theorem dX6_readLaw_38 : decode cX6_readLaw 38 = .ok (.bipush 44, 2) := by decide +kernel
theorem dX6_readLaw_40 : decode cX6_readLaw 40 = .ok (.invokevirtual 53, 3) := by decide +kernel
theorem dX6_readLaw_43 : decode cX6_readLaw 43 = .ok (.putfield 60, 3) := by decide +kernel
theorem dX6_readLaw_46 : decode cX6_readLaw 46 = .ok (.aload_n 0, 1) := by decide +kernel
theorem dX6_readLaw_47 : decode cX6_readLaw 47 = .ok (.getfield 22, 3) := by decide +kernel
theorem dX6_readLaw_50 : decode cX6_readLaw 50 = .ok (.ifCond .eq 5, 3) := by decide +kernel
theorem dX6_readLaw_53 : decode cX6_readLaw 53 = .ok (.iconst 0, 1) := by decide +kernel
theorem dX6_readLaw_54 : decode cX6_readLaw 54 = .ok (.ireturn, 1) := by decide +kernel
theorem dX6_readLaw_55 : decode cX6_readLaw 55 = .ok (.aload_n 1, 1) := by decide +kernel
theorem dX6_readLaw_56 : decode cX6_readLaw 56 = .ok (.aload_n 0, 1) := by decide +kernel
theorem dX6_readLaw_57 : decode cX6_readLaw 57 = .ok (.iconst 1, 1) := by decide +kernel
theorem dX6_readLaw_58 : decode cX6_readLaw 58 = .ok (.bipush 9, 2) := by decide +kernel
theorem dX6_readLaw_60 : decode cX6_readLaw 60 = .ok (.bipush 59, 2) := by decide +kernel
theorem dX6_readLaw_62 : decode cX6_readLaw 62 = .ok (.invokevirtual 53, 3) := by decide +kernel
theorem dX6_readLaw_65 : decode cX6_readLaw 65 = .ok (.putfield 63, 3) := by decide +kernel
theorem dX6_readLaw_68 : decode cX6_readLaw 68 = .ok (.aload_n 0, 1) := by decide +kernel
theorem dX6_readLaw_69 : decode cX6_readLaw 69 = .ok (.getfield 22, 3) := by decide +kernel
theorem dX6_readLaw_72 : decode cX6_readLaw 72 = .ok (.ifCond .ne 7, 3) := by decide +kernel
theorem dX6_readLaw_75 : decode cX6_readLaw 75 = .ok (.iconst 1, 1) := by decide +kernel
theorem dX6_readLaw_76 : decode cX6_readLaw 76 = .ok (.goto 4, 3) := by decide +kernel
theorem dX6_readLaw_79 : decode cX6_readLaw 79 = .ok (.iconst 0, 1) := by decide +kernel
theorem dX6_readLaw_80 : decode cX6_readLaw 80 = .ok (.ireturn, 1) := by decide +kernel
theorem dX6_readAllFeet_0 : decode cX6_readAllFeet 0 = .ok (.iconst 0, 1) := by decide +kernel
theorem dX6_readAllFeet_1 : decode cX6_readAllFeet 1 = .ok (.istore_n 2, 1) := by decide +kernel
theorem dX6_readAllFeet_2 : decode cX6_readAllFeet 2 = .ok (.iload_n 2, 1) := by decide +kernel
theorem dX6_readAllFeet_3 : decode cX6_readAllFeet 3 = .ok (.iconst 3, 1) := by decide +kernel
theorem dX6_readAllFeet_4 : decode cX6_readAllFeet 4 = .ok (.if_icmp .ge 68, 3) := by decide +kernel
theorem dX6_readAllFeet_7 : decode cX6_readAllFeet 7 = .ok (.aload_n 0, 1) := by decide +kernel
theorem dX6_readAllFeet_8 : decode cX6_readAllFeet 8 = .ok (.bipush 119, 2) := by decide +kernel
theorem dX6_readAllFeet_10 : decode cX6_readAllFeet 10 = .ok (.invokevirtual 49, 3) := by decide +kernel
theorem dX6_readAllFeet_13 : decode cX6_readAllFeet 13 = .ok (.ifCond .ne 5, 3) := by decide +kernel
theorem dX6_readAllFeet_16 : decode cX6_readAllFeet 16 = .ok (.iconst 0, 1) := by decide +kernel
theorem dX6_readAllFeet_17 : decode cX6_readAllFeet 17 = .ok (.ireturn, 1) := by decide +kernel
theorem dX6_readAllFeet_18 : decode cX6_readAllFeet 18 = .ok (.aload_n 1, 1) := by decide +kernel
theorem dX6_readAllFeet_19 : decode cX6_readAllFeet 19 = .ok (.getfield 66, 3) := by decide +kernel
theorem dX6_readAllFeet_22 : decode cX6_readAllFeet 22 = .ok (.iload_n 2, 1) := by decide +kernel
theorem dX6_readAllFeet_23 : decode cX6_readAllFeet 23 = .ok (.aload_n 0, 1) := by decide +kernel
theorem dX6_readAllFeet_24 : decode cX6_readAllFeet 24 = .ok (.iconst 0, 1) := by decide +kernel
theorem dX6_readAllFeet_25 : decode cX6_readAllFeet 25 = .ok (.bipush 60, 2) := by decide +kernel
theorem dX6_readAllFeet_27 : decode cX6_readAllFeet 27 = .ok (.bipush 44, 2) := by decide +kernel
theorem dX6_readAllFeet_29 : decode cX6_readAllFeet 29 = .ok (.invokevirtual 53, 3) := by decide +kernel
theorem dX6_readAllFeet_32 : decode cX6_readAllFeet 32 = .ok (.iastore, 1) := by decide +kernel
theorem dX6_readAllFeet_33 : decode cX6_readAllFeet 33 = .ok (.aload_n 0, 1) := by decide +kernel
theorem dX6_readAllFeet_34 : decode cX6_readAllFeet 34 = .ok (.getfield 22, 3) := by decide +kernel
theorem dX6_readAllFeet_37 : decode cX6_readAllFeet 37 = .ok (.ifCond .eq 5, 3) := by decide +kernel
theorem dX6_readAllFeet_40 : decode cX6_readAllFeet 40 = .ok (.iconst 0, 1) := by decide +kernel
theorem dX6_readAllFeet_41 : decode cX6_readAllFeet 41 = .ok (.ireturn, 1) := by decide +kernel
theorem dX6_readAllFeet_42 : decode cX6_readAllFeet 42 = .ok (.aload_n 1, 1) := by decide +kernel
theorem dX6_readAllFeet_43 : decode cX6_readAllFeet 43 = .ok (.getfield 71, 3) := by decide +kernel
theorem dX6_readAllFeet_46 : decode cX6_readAllFeet 46 = .ok (.iload_n 2, 1) := by decide +kernel
theorem dX6_readAllFeet_47 : decode cX6_readAllFeet 47 = .ok (.aload_n 0, 1) := by decide +kernel
theorem dX6_readAllFeet_48 : decode cX6_readAllFeet 48 = .ok (.iconst 0, 1) := by decide +kernel
theorem dX6_readAllFeet_49 : decode cX6_readAllFeet 49 = .ok (.bipush 9, 2) := by decide +kernel
theorem dX6_readAllFeet_51 : decode cX6_readAllFeet 51 = .ok (.bipush 59, 2) := by decide +kernel
theorem dX6_readAllFeet_53 : decode cX6_readAllFeet 53 = .ok (.invokevirtual 53, 3) := by decide +kernel
theorem dX6_readAllFeet_56 : decode cX6_readAllFeet 56 = .ok (.iastore, 1) := by decide +kernel
theorem dX6_readAllFeet_57 : decode cX6_readAllFeet 57 = .ok (.aload_n 0, 1) := by decide +kernel
theorem dX6_readAllFeet_58 : decode cX6_readAllFeet 58 = .ok (.getfield 22, 3) := by decide +kernel
theorem dX6_readAllFeet_61 : decode cX6_readAllFeet 61 = .ok (.ifCond .eq 5, 3) := by decide +kernel
theorem dX6_readAllFeet_64 : decode cX6_readAllFeet 64 = .ok (.iconst 0, 1) := by decide +kernel
theorem dX6_readAllFeet_65 : decode cX6_readAllFeet 65 = .ok (.ireturn, 1) := by decide +kernel
theorem dX6_readAllFeet_66 : decode cX6_readAllFeet 66 = .ok (.iinc 2 1, 3) := by decide +kernel
theorem dX6_readAllFeet_69 : decode cX6_readAllFeet 69 = .ok (.goto (-67), 3) := by decide +kernel
theorem dX6_readAllFeet_72 : decode cX6_readAllFeet 72 = .ok (.iconst 1, 1) := by decide +kernel
theorem dX6_readAllFeet_73 : decode cX6_readAllFeet 73 = .ok (.ireturn, 1) := by decide +kernel
theorem dX6_readDeeds_0 : decode cX6_readDeeds 0 = .ok (.iconst 0, 1) := by decide +kernel
theorem dX6_readDeeds_1 : decode cX6_readDeeds 1 = .ok (.istore_n 2, 1) := by decide +kernel
theorem dX6_readDeeds_2 : decode cX6_readDeeds 2 = .ok (.iload_n 2, 1) := by decide +kernel
theorem dX6_readDeeds_3 : decode cX6_readDeeds 3 = .ok (.bipush 7, 2) := by decide +kernel
theorem dX6_readDeeds_5 : decode cX6_readDeeds 5 = .ok (.if_icmp .gt 36, 3) := by decide +kernel
theorem dX6_readDeeds_8 : decode cX6_readDeeds 8 = .ok (.iload_n 2, 1) := by decide +kernel
theorem dX6_readDeeds_9 : decode cX6_readDeeds 9 = .ok (.ifCond .le 16, 3) := by decide +kernel
theorem dX6_readDeeds_12 : decode cX6_readDeeds 12 = .ok (.aload_n 0, 1) := by decide +kernel
theorem dX6_readDeeds_13 : decode cX6_readDeeds 13 = .ok (.getfield 19, 3) := by decide +kernel
theorem dX6_readDeeds_16 : decode cX6_readDeeds 16 = .ok (.aload_n 0, 1) := by decide +kernel
theorem dX6_readDeeds_17 : decode cX6_readDeeds 17 = .ok (.getfield 15, 3) := by decide +kernel
theorem dX6_readDeeds_20 : decode cX6_readDeeds 20 = .ok (.if_icmp .ne 5, 3) := by decide +kernel
theorem dX6_readDeeds_23 : decode cX6_readDeeds 23 = .ok (.iconst 1, 1) := by decide +kernel
theorem dX6_readDeeds_24 : decode cX6_readDeeds 24 = .ok (.ireturn, 1) := by decide +kernel
theorem dX6_readDeeds_25 : decode cX6_readDeeds 25 = .ok (.aload_n 0, 1) := by decide +kernel
theorem dX6_readDeeds_26 : decode cX6_readDeeds 26 = .ok (.aload_n 1, 1) := by decide +kernel
theorem dX6_readDeeds_27 : decode cX6_readDeeds 27 = .ok (.invokevirtual 74, 3) := by decide +kernel
theorem dX6_readDeeds_30 : decode cX6_readDeeds 30 = .ok (.ifCond .ne 5, 3) := by decide +kernel
theorem dX6_readDeeds_33 : decode cX6_readDeeds 33 = .ok (.iconst 0, 1) := by decide +kernel
theorem dX6_readDeeds_34 : decode cX6_readDeeds 34 = .ok (.ireturn, 1) := by decide +kernel
theorem dX6_readDeeds_35 : decode cX6_readDeeds 35 = .ok (.iinc 2 1, 3) := by decide +kernel
theorem dX6_readDeeds_38 : decode cX6_readDeeds 38 = .ok (.goto (-36), 3) := by decide +kernel
theorem dX6_readDeeds_41 : decode cX6_readDeeds 41 = .ok (.iconst 0, 1) := by decide +kernel
theorem dX6_readDeeds_42 : decode cX6_readDeeds 42 = .ok (.ireturn, 1) := by decide +kernel
theorem dX6_readDeed_0 : decode cX6_readDeed 0 = .ok (.aload_n 0, 1) := by decide +kernel
theorem dX6_readDeed_1 : decode cX6_readDeed 1 = .ok (.getfield 19, 3) := by decide +kernel
theorem dX6_readDeed_4 : decode cX6_readDeed 4 = .ok (.aload_n 0, 1) := by decide +kernel
theorem dX6_readDeed_5 : decode cX6_readDeed 5 = .ok (.getfield 15, 3) := by decide +kernel
theorem dX6_readDeed_8 : decode cX6_readDeed 8 = .ok (.if_icmp .ge 15, 3) := by decide +kernel
theorem dX6_readDeed_11 : decode cX6_readDeed 11 = .ok (.aload_n 0, 1) := by decide +kernel
theorem dX6_readDeed_12 : decode cX6_readDeed 12 = .ok (.getfield 11, 3) := by decide +kernel
theorem dX6_readDeed_15 : decode cX6_readDeed 15 = .ok (.aload_n 0, 1) := by decide +kernel
theorem dX6_readDeed_16 : decode cX6_readDeed 16 = .ok (.getfield 19, 3) := by decide +kernel
theorem dX6_readDeed_19 : decode cX6_readDeed 19 = .ok (.iaload, 1) := by decide +kernel
theorem dX6_readDeed_20 : decode cX6_readDeed 20 = .ok (.goto 4, 3) := by decide +kernel
theorem dX6_readDeed_23 : decode cX6_readDeed 23 = .ok (.iconst 0, 1) := by decide +kernel
theorem dX6_readDeed_24 : decode cX6_readDeed 24 = .ok (.istore_n 2, 1) := by decide +kernel
theorem dX6_readDeed_25 : decode cX6_readDeed 25 = .ok (.iload_n 2, 1) := by decide +kernel
theorem dX6_readDeed_26 : decode cX6_readDeed 26 = .ok (.invokestatic 77, 3) := by decide +kernel
theorem dX6_readDeed_29 : decode cX6_readDeed 29 = .ok (.istore_n 3, 1) := by decide +kernel
theorem dX6_readDeed_30 : decode cX6_readDeed 30 = .ok (.iload_n 3, 1) := by decide +kernel
theorem dX6_readDeed_31 : decode cX6_readDeed 31 = .ok (.ifCond .ne 26, 3) := by decide +kernel
theorem dX6_readDeed_34 : decode cX6_readDeed 34 = .ok (.aload_n 0, 1) := by decide +kernel
theorem dX6_readDeed_35 : decode cX6_readDeed 35 = .ok (.iload_n 2, 1) := by decide +kernel
theorem dX6_readDeed_36 : decode cX6_readDeed 36 = .ok (.bipush 119, 2) := by decide +kernel
theorem dX6_readDeed_38 : decode cX6_readDeed 38 = .ok (.if_icmp .ne 14, 3) := by decide +kernel
theorem dX6_readDeed_41 : decode cX6_readDeed 41 = .ok (.aload_n 1, 1) := by decide +kernel
theorem dX6_readDeed_42 : decode cX6_readDeed 42 = .ok (.getfield 81, 3) := by decide +kernel
theorem dX6_readDeed_45 : decode cX6_readDeed 45 = .ok (.ifCond .ne 7, 3) := by decide +kernel
theorem dX6_readDeed_48 : decode cX6_readDeed 48 = .ok (.iconst 3, 1) := by decide +kernel
theorem dX6_readDeed_49 : decode cX6_readDeed 49 = .ok (.goto 4, 3) := by decide +kernel
theorem dX6_readDeed_52 : decode cX6_readDeed 52 = .ok (.iconst 1, 1) := by decide +kernel
theorem dX6_readDeed_53 : decode cX6_readDeed 53 = .ok (.invokevirtual 84, 3) := by decide +kernel
theorem dX6_readDeed_56 : decode cX6_readDeed 56 = .ok (.ireturn, 1) := by decide +kernel
theorem dX6_readDeed_57 : decode cX6_readDeed 57 = .ok (.aload_n 1, 1) := by decide +kernel
theorem dX6_readDeed_58 : decode cX6_readDeed 58 = .ok (.getfield 81, 3) := by decide +kernel
theorem dX6_readDeed_61 : decode cX6_readDeed 61 = .ok (.bipush 7, 2) := by decide +kernel
theorem dX6_readDeed_63 : decode cX6_readDeed 63 = .ok (.if_icmp .lt 9, 3) := by decide +kernel
theorem dX6_readDeed_66 : decode cX6_readDeed 66 = .ok (.aload_n 0, 1) := by decide +kernel
theorem dX6_readDeed_67 : decode cX6_readDeed 67 = .ok (.iconst 3, 1) := by decide +kernel
theorem dX6_readDeed_68 : decode cX6_readDeed 68 = .ok (.invokevirtual 84, 3) := by decide +kernel
theorem dX6_readDeed_71 : decode cX6_readDeed 71 = .ok (.ireturn, 1) := by decide +kernel
theorem dX6_readDeed_72 : decode cX6_readDeed 72 = .ok (.aload_n 0, 1) := by decide +kernel
theorem dX6_readDeed_73 : decode cX6_readDeed 73 = .ok (.dup, 1) := by decide +kernel
theorem dX6_readDeed_74 : decode cX6_readDeed 74 = .ok (.getfield 19, 3) := by decide +kernel
theorem dX6_readDeed_77 : decode cX6_readDeed 77 = .ok (.iconst 1, 1) := by decide +kernel
theorem dX6_readDeed_78 : decode cX6_readDeed 78 = .ok (.iadd, 1) := by decide +kernel
theorem dX6_readDeed_79 : decode cX6_readDeed 79 = .ok (.putfield 19, 3) := by decide +kernel
theorem dX6_readDeed_82 : decode cX6_readDeed 82 = .ok (.aload_n 0, 1) := by decide +kernel
theorem dX6_readDeed_83 : decode cX6_readDeed 83 = .ok (.iconst 0, 1) := by decide +kernel
theorem dX6_readDeed_84 : decode cX6_readDeed 84 = .ok (.iconst 2, 1) := by decide +kernel
theorem dX6_readDeed_85 : decode cX6_readDeed 85 = .ok (.bipush 44, 2) := by decide +kernel
theorem dX6_readDeed_87 : decode cX6_readDeed 87 = .ok (.invokevirtual 53, 3) := by decide +kernel
theorem dX6_readDeed_90 : decode cX6_readDeed 90 = .ok (.istore 4, 2) := by decide +kernel
theorem dX6_readDeed_92 : decode cX6_readDeed 92 = .ok (.aload_n 0, 1) := by decide +kernel
theorem dX6_readDeed_93 : decode cX6_readDeed 93 = .ok (.getfield 22, 3) := by decide +kernel
theorem dX6_readDeed_96 : decode cX6_readDeed 96 = .ok (.ifCond .eq 5, 3) := by decide +kernel
theorem dX6_readDeed_99 : decode cX6_readDeed 99 = .ok (.iconst 0, 1) := by decide +kernel
theorem dX6_readDeed_100 : decode cX6_readDeed 100 = .ok (.ireturn, 1) := by decide +kernel
theorem dX6_readDeed_101 : decode cX6_readDeed 101 = .ok (.aload_n 0, 1) := by decide +kernel
theorem dX6_readDeed_102 : decode cX6_readDeed 102 = .ok (.iconst 1, 1) := by decide +kernel
theorem dX6_readDeed_103 : decode cX6_readDeed 103 = .ok (.bipush 20, 2) := by decide +kernel
theorem dX6_readDeed_105 : decode cX6_readDeed 105 = .ok (.bipush 59, 2) := by decide +kernel
theorem dX6_readDeed_107 : decode cX6_readDeed 107 = .ok (.invokevirtual 53, 3) := by decide +kernel
theorem dX6_readDeed_110 : decode cX6_readDeed 110 = .ok (.istore 5, 2) := by decide +kernel
theorem dX6_readDeed_112 : decode cX6_readDeed 112 = .ok (.aload_n 0, 1) := by decide +kernel
theorem dX6_readDeed_113 : decode cX6_readDeed 113 = .ok (.getfield 22, 3) := by decide +kernel
theorem dX6_readDeed_116 : decode cX6_readDeed 116 = .ok (.ifCond .eq 5, 3) := by decide +kernel
theorem dX6_readDeed_119 : decode cX6_readDeed 119 = .ok (.iconst 0, 1) := by decide +kernel
theorem dX6_readDeed_120 : decode cX6_readDeed 120 = .ok (.ireturn, 1) := by decide +kernel
theorem dX6_readDeed_121 : decode cX6_readDeed 121 = .ok (.aload_n 1, 1) := by decide +kernel
theorem dX6_readDeed_122 : decode cX6_readDeed 122 = .ok (.iload_n 3, 1) := by decide +kernel
theorem dX6_readDeed_123 : decode cX6_readDeed 123 = .ok (.iload 4, 2) := by decide +kernel
theorem dX6_readDeed_125 : decode cX6_readDeed 125 = .ok (.iload 5, 2) := by decide +kernel
theorem dX6_readDeed_127 : decode cX6_readDeed 127 = .ok (.invokevirtual 88, 3) := by decide +kernel
theorem dX6_readDeed_130 : decode cX6_readDeed 130 = .ok (.iconst 1, 1) := by decide +kernel
theorem dX6_readDeed_131 : decode cX6_readDeed 131 = .ok (.ireturn, 1) := by decide +kernel
theorem dX6_kindTold_0 : decode cX6_kindTold 0 = .ok (.iload_n 0, 1) := by decide +kernel
theorem dX6_kindTold_1 : decode cX6_kindTold 1 = .ok (.lookupswitch 61 #[(100, 51), (111, 53), (115, 55), (116, 59), (117, 57)], 51) := by decide +kernel
theorem dX6_kindTold_52 : decode cX6_kindTold 52 = .ok (.iconst 1, 1) := by decide +kernel
theorem dX6_kindTold_53 : decode cX6_kindTold 53 = .ok (.ireturn, 1) := by decide +kernel
theorem dX6_kindTold_54 : decode cX6_kindTold 54 = .ok (.iconst 2, 1) := by decide +kernel
theorem dX6_kindTold_55 : decode cX6_kindTold 55 = .ok (.ireturn, 1) := by decide +kernel
theorem dX6_kindTold_56 : decode cX6_kindTold 56 = .ok (.iconst 3, 1) := by decide +kernel
theorem dX6_kindTold_57 : decode cX6_kindTold 57 = .ok (.ireturn, 1) := by decide +kernel
theorem dX6_kindTold_58 : decode cX6_kindTold 58 = .ok (.iconst 4, 1) := by decide +kernel
theorem dX6_kindTold_59 : decode cX6_kindTold 59 = .ok (.ireturn, 1) := by decide +kernel
theorem dX6_kindTold_60 : decode cX6_kindTold 60 = .ok (.iconst 5, 1) := by decide +kernel
theorem dX6_kindTold_61 : decode cX6_kindTold 61 = .ok (.ireturn, 1) := by decide +kernel
theorem dX6_kindTold_62 : decode cX6_kindTold 62 = .ok (.iconst 0, 1) := by decide +kernel
theorem dX6_kindTold_63 : decode cX6_kindTold 63 = .ok (.ireturn, 1) := by decide +kernel
theorem dX6_take_0 : decode cX6_take 0 = .ok (.aload_n 0, 1) := by decide +kernel
theorem dX6_take_1 : decode cX6_take 1 = .ok (.getfield 19, 3) := by decide +kernel
theorem dX6_take_4 : decode cX6_take 4 = .ok (.aload_n 0, 1) := by decide +kernel
theorem dX6_take_5 : decode cX6_take 5 = .ok (.getfield 15, 3) := by decide +kernel
theorem dX6_take_8 : decode cX6_take 8 = .ok (.if_icmp .ge 16, 3) := by decide +kernel
theorem dX6_take_11 : decode cX6_take 11 = .ok (.aload_n 0, 1) := by decide +kernel
theorem dX6_take_12 : decode cX6_take 12 = .ok (.getfield 11, 3) := by decide +kernel
theorem dX6_take_15 : decode cX6_take 15 = .ok (.aload_n 0, 1) := by decide +kernel
theorem dX6_take_16 : decode cX6_take 16 = .ok (.getfield 19, 3) := by decide +kernel
theorem dX6_take_19 : decode cX6_take 19 = .ok (.iaload, 1) := by decide +kernel
theorem dX6_take_20 : decode cX6_take 20 = .ok (.iload_n 1, 1) := by decide +kernel
theorem dX6_take_21 : decode cX6_take 21 = .ok (.if_icmp .eq 9, 3) := by decide +kernel
theorem dX6_take_24 : decode cX6_take 24 = .ok (.aload_n 0, 1) := by decide +kernel
theorem dX6_take_25 : decode cX6_take 25 = .ok (.iconst 1, 1) := by decide +kernel
theorem dX6_take_26 : decode cX6_take 26 = .ok (.invokevirtual 84, 3) := by decide +kernel
theorem dX6_take_29 : decode cX6_take 29 = .ok (.ireturn, 1) := by decide +kernel
theorem dX6_take_30 : decode cX6_take 30 = .ok (.aload_n 0, 1) := by decide +kernel
theorem dX6_take_31 : decode cX6_take 31 = .ok (.dup, 1) := by decide +kernel
theorem dX6_take_32 : decode cX6_take 32 = .ok (.getfield 19, 3) := by decide +kernel
theorem dX6_take_35 : decode cX6_take 35 = .ok (.iconst 1, 1) := by decide +kernel
theorem dX6_take_36 : decode cX6_take 36 = .ok (.iadd, 1) := by decide +kernel
theorem dX6_take_37 : decode cX6_take 37 = .ok (.putfield 19, 3) := by decide +kernel
theorem dX6_take_40 : decode cX6_take 40 = .ok (.iconst 1, 1) := by decide +kernel
theorem dX6_take_41 : decode cX6_take 41 = .ok (.ireturn, 1) := by decide +kernel
theorem dX6_takeNumber_0 : decode cX6_takeNumber 0 = .ok (.iconst 0, 1) := by decide +kernel
theorem dX6_takeNumber_1 : decode cX6_takeNumber 1 = .ok (.istore 4, 2) := by decide +kernel
theorem dX6_takeNumber_3 : decode cX6_takeNumber 3 = .ok (.iconst 0, 1) := by decide +kernel
theorem dX6_takeNumber_4 : decode cX6_takeNumber 4 = .ok (.istore 5, 2) := by decide +kernel
theorem dX6_takeNumber_6 : decode cX6_takeNumber 6 = .ok (.aload_n 0, 1) := by decide +kernel
theorem dX6_takeNumber_7 : decode cX6_takeNumber 7 = .ok (.getfield 19, 3) := by decide +kernel
theorem dX6_takeNumber_10 : decode cX6_takeNumber 10 = .ok (.istore 6, 2) := by decide +kernel
theorem dX6_takeNumber_12 : decode cX6_takeNumber 12 = .ok (.iload 6, 2) := by decide +kernel
theorem dX6_takeNumber_14 : decode cX6_takeNumber 14 = .ok (.aload_n 0, 1) := by decide +kernel
theorem dX6_takeNumber_15 : decode cX6_takeNumber 15 = .ok (.getfield 15, 3) := by decide +kernel
theorem dX6_takeNumber_18 : decode cX6_takeNumber 18 = .ok (.if_icmp .ge 60, 3) := by decide +kernel
theorem dX6_takeNumber_21 : decode cX6_takeNumber 21 = .ok (.aload_n 0, 1) := by decide +kernel
theorem dX6_takeNumber_22 : decode cX6_takeNumber 22 = .ok (.getfield 11, 3) := by decide +kernel
theorem dX6_takeNumber_25 : decode cX6_takeNumber 25 = .ok (.iload 6, 2) := by decide +kernel
theorem dX6_takeNumber_27 : decode cX6_takeNumber 27 = .ok (.iaload, 1) := by decide +kernel
theorem dX6_takeNumber_28 : decode cX6_takeNumber 28 = .ok (.bipush 48, 2) := by decide +kernel
theorem dX6_takeNumber_30 : decode cX6_takeNumber 30 = .ok (.if_icmp .lt 48, 3) := by decide +kernel
theorem dX6_takeNumber_33 : decode cX6_takeNumber 33 = .ok (.aload_n 0, 1) := by decide +kernel
theorem dX6_takeNumber_34 : decode cX6_takeNumber 34 = .ok (.getfield 11, 3) := by decide +kernel
theorem dX6_takeNumber_37 : decode cX6_takeNumber 37 = .ok (.iload 6, 2) := by decide +kernel
theorem dX6_takeNumber_39 : decode cX6_takeNumber 39 = .ok (.iaload, 1) := by decide +kernel
theorem dX6_takeNumber_40 : decode cX6_takeNumber 40 = .ok (.bipush 57, 2) := by decide +kernel
theorem dX6_takeNumber_42 : decode cX6_takeNumber 42 = .ok (.if_icmp .gt 36, 3) := by decide +kernel
theorem dX6_takeNumber_45 : decode cX6_takeNumber 45 = .ok (.iinc 4 1, 3) := by decide +kernel
theorem dX6_takeNumber_48 : decode cX6_takeNumber 48 = .ok (.iload 4, 2) := by decide +kernel
theorem dX6_takeNumber_50 : decode cX6_takeNumber 50 = .ok (.iconst 2, 1) := by decide +kernel
theorem dX6_takeNumber_51 : decode cX6_takeNumber 51 = .ok (.if_icmp .gt 21, 3) := by decide +kernel
theorem dX6_takeNumber_54 : decode cX6_takeNumber 54 = .ok (.iload 5, 2) := by decide +kernel
theorem dX6_takeNumber_56 : decode cX6_takeNumber 56 = .ok (.bipush 10, 2) := by decide +kernel
theorem dX6_takeNumber_58 : decode cX6_takeNumber 58 = .ok (.imul, 1) := by decide +kernel
theorem dX6_takeNumber_59 : decode cX6_takeNumber 59 = .ok (.aload_n 0, 1) := by decide +kernel
theorem dX6_takeNumber_60 : decode cX6_takeNumber 60 = .ok (.getfield 11, 3) := by decide +kernel
theorem dX6_takeNumber_63 : decode cX6_takeNumber 63 = .ok (.iload 6, 2) := by decide +kernel
theorem dX6_takeNumber_65 : decode cX6_takeNumber 65 = .ok (.iaload, 1) := by decide +kernel
theorem dX6_takeNumber_66 : decode cX6_takeNumber 66 = .ok (.iadd, 1) := by decide +kernel
theorem dX6_takeNumber_67 : decode cX6_takeNumber 67 = .ok (.bipush 48, 2) := by decide +kernel
theorem dX6_takeNumber_69 : decode cX6_takeNumber 69 = .ok (.isub, 1) := by decide +kernel
theorem dX6_takeNumber_70 : decode cX6_takeNumber 70 = .ok (.istore 5, 2) := by decide +kernel
theorem dX6_takeNumber_72 : decode cX6_takeNumber 72 = .ok (.iinc 6 1, 3) := by decide +kernel
theorem dX6_takeNumber_75 : decode cX6_takeNumber 75 = .ok (.goto (-63), 3) := by decide +kernel
theorem dX6_takeNumber_78 : decode cX6_takeNumber 78 = .ok (.iload 4, 2) := by decide +kernel
theorem dX6_takeNumber_80 : decode cX6_takeNumber 80 = .ok (.iconst 1, 1) := by decide +kernel
theorem dX6_takeNumber_81 : decode cX6_takeNumber 81 = .ok (.if_icmp .lt 9, 3) := by decide +kernel
theorem dX6_takeNumber_84 : decode cX6_takeNumber 84 = .ok (.iload 4, 2) := by decide +kernel
theorem dX6_takeNumber_86 : decode cX6_takeNumber 86 = .ok (.iconst 2, 1) := by decide +kernel
theorem dX6_takeNumber_87 : decode cX6_takeNumber 87 = .ok (.if_icmp .le 12, 3) := by decide +kernel
theorem dX6_takeNumber_90 : decode cX6_takeNumber 90 = .ok (.aload_n 0, 1) := by decide +kernel
theorem dX6_takeNumber_91 : decode cX6_takeNumber 91 = .ok (.iconst 1, 1) := by decide +kernel
theorem dX6_takeNumber_92 : decode cX6_takeNumber 92 = .ok (.invokevirtual 84, 3) := by decide +kernel
theorem dX6_takeNumber_95 : decode cX6_takeNumber 95 = .ok (.pop, 1) := by decide +kernel
theorem dX6_takeNumber_96 : decode cX6_takeNumber 96 = .ok (.goto 41, 3) := by decide +kernel
theorem dX6_takeNumber_99 : decode cX6_takeNumber 99 = .ok (.iload 5, 2) := by decide +kernel
theorem dX6_takeNumber_101 : decode cX6_takeNumber 101 = .ok (.iload_n 1, 1) := by decide +kernel
theorem dX6_takeNumber_102 : decode cX6_takeNumber 102 = .ok (.if_icmp .lt 9, 3) := by decide +kernel
theorem dX6_takeNumber_105 : decode cX6_takeNumber 105 = .ok (.iload 5, 2) := by decide +kernel
theorem dX6_takeNumber_107 : decode cX6_takeNumber 107 = .ok (.iload_n 2, 1) := by decide +kernel
theorem dX6_takeNumber_108 : decode cX6_takeNumber 108 = .ok (.if_icmp .le 12, 3) := by decide +kernel
theorem dX6_takeNumber_111 : decode cX6_takeNumber 111 = .ok (.aload_n 0, 1) := by decide +kernel
theorem dX6_takeNumber_112 : decode cX6_takeNumber 112 = .ok (.iconst 2, 1) := by decide +kernel
theorem dX6_takeNumber_113 : decode cX6_takeNumber 113 = .ok (.invokevirtual 84, 3) := by decide +kernel
theorem dX6_takeNumber_116 : decode cX6_takeNumber 116 = .ok (.pop, 1) := by decide +kernel
theorem dX6_takeNumber_117 : decode cX6_takeNumber 117 = .ok (.goto 20, 3) := by decide +kernel
theorem dX6_takeNumber_120 : decode cX6_takeNumber 120 = .ok (.aload_n 0, 1) := by decide +kernel
theorem dX6_takeNumber_121 : decode cX6_takeNumber 121 = .ok (.dup, 1) := by decide +kernel
theorem dX6_takeNumber_122 : decode cX6_takeNumber 122 = .ok (.getfield 19, 3) := by decide +kernel
theorem dX6_takeNumber_125 : decode cX6_takeNumber 125 = .ok (.iload 4, 2) := by decide +kernel
theorem dX6_takeNumber_127 : decode cX6_takeNumber 127 = .ok (.iadd, 1) := by decide +kernel
theorem dX6_takeNumber_128 : decode cX6_takeNumber 128 = .ok (.putfield 19, 3) := by decide +kernel
theorem dX6_takeNumber_131 : decode cX6_takeNumber 131 = .ok (.aload_n 0, 1) := by decide +kernel
theorem dX6_takeNumber_132 : decode cX6_takeNumber 132 = .ok (.iload_n 3, 1) := by decide +kernel
theorem dX6_takeNumber_133 : decode cX6_takeNumber 133 = .ok (.invokevirtual 49, 3) := by decide +kernel
theorem dX6_takeNumber_136 : decode cX6_takeNumber 136 = .ok (.pop, 1) := by decide +kernel
theorem dX6_takeNumber_137 : decode cX6_takeNumber 137 = .ok (.iload 5, 2) := by decide +kernel
theorem dX6_takeNumber_139 : decode cX6_takeNumber 139 = .ok (.ireturn, 1) := by decide +kernel
theorem dX6_stop_0 : decode cX6_stop 0 = .ok (.aload_n 0, 1) := by decide +kernel
theorem dX6_stop_1 : decode cX6_stop 1 = .ok (.iload_n 1, 1) := by decide +kernel
theorem dX6_stop_2 : decode cX6_stop 2 = .ok (.putfield 22, 3) := by decide +kernel
theorem dX6_stop_5 : decode cX6_stop 5 = .ok (.iconst 0, 1) := by decide +kernel
theorem dX6_stop_6 : decode cX6_stop 6 = .ok (.ireturn, 1) := by decide +kernel
theorem dJ6_bitCount_0f7a4_0 : decode cJ6_bitCount_0f7a4 0 = .ok (.iload_n 0, 1) := by decide +kernel
theorem dJ6_bitCount_0f7a4_1 : decode cJ6_bitCount_0f7a4 1 = .ok (.iload_n 0, 1) := by decide +kernel
theorem dJ6_bitCount_0f7a4_2 : decode cJ6_bitCount_0f7a4 2 = .ok (.iconst 1, 1) := by decide +kernel
theorem dJ6_bitCount_0f7a4_3 : decode cJ6_bitCount_0f7a4 3 = .ok (.iushr, 1) := by decide +kernel
theorem dJ6_bitCount_0f7a4_4 : decode cJ6_bitCount_0f7a4 4 = .ok (.ldc_w 265, 3) := by decide +kernel
theorem dJ6_bitCount_0f7a4_7 : decode cJ6_bitCount_0f7a4 7 = .ok (.iand, 1) := by decide +kernel
theorem dJ6_bitCount_0f7a4_8 : decode cJ6_bitCount_0f7a4 8 = .ok (.isub, 1) := by decide +kernel
theorem dJ6_bitCount_0f7a4_9 : decode cJ6_bitCount_0f7a4 9 = .ok (.istore_n 0, 1) := by decide +kernel
theorem dJ6_bitCount_0f7a4_10 : decode cJ6_bitCount_0f7a4 10 = .ok (.iload_n 0, 1) := by decide +kernel
theorem dJ6_bitCount_0f7a4_11 : decode cJ6_bitCount_0f7a4 11 = .ok (.ldc_w 266, 3) := by decide +kernel
theorem dJ6_bitCount_0f7a4_14 : decode cJ6_bitCount_0f7a4 14 = .ok (.iand, 1) := by decide +kernel
theorem dJ6_bitCount_0f7a4_15 : decode cJ6_bitCount_0f7a4 15 = .ok (.iload_n 0, 1) := by decide +kernel
theorem dJ6_bitCount_0f7a4_16 : decode cJ6_bitCount_0f7a4 16 = .ok (.iconst 2, 1) := by decide +kernel
theorem dJ6_bitCount_0f7a4_17 : decode cJ6_bitCount_0f7a4 17 = .ok (.iushr, 1) := by decide +kernel
theorem dJ6_bitCount_0f7a4_18 : decode cJ6_bitCount_0f7a4 18 = .ok (.ldc_w 266, 3) := by decide +kernel
theorem dJ6_bitCount_0f7a4_21 : decode cJ6_bitCount_0f7a4 21 = .ok (.iand, 1) := by decide +kernel
theorem dJ6_bitCount_0f7a4_22 : decode cJ6_bitCount_0f7a4 22 = .ok (.iadd, 1) := by decide +kernel
theorem dJ6_bitCount_0f7a4_23 : decode cJ6_bitCount_0f7a4 23 = .ok (.istore_n 0, 1) := by decide +kernel
theorem dJ6_bitCount_0f7a4_24 : decode cJ6_bitCount_0f7a4 24 = .ok (.iload_n 0, 1) := by decide +kernel
theorem dJ6_bitCount_0f7a4_25 : decode cJ6_bitCount_0f7a4 25 = .ok (.iload_n 0, 1) := by decide +kernel
theorem dJ6_bitCount_0f7a4_26 : decode cJ6_bitCount_0f7a4 26 = .ok (.iconst 4, 1) := by decide +kernel
theorem dJ6_bitCount_0f7a4_27 : decode cJ6_bitCount_0f7a4 27 = .ok (.iushr, 1) := by decide +kernel
theorem dJ6_bitCount_0f7a4_28 : decode cJ6_bitCount_0f7a4 28 = .ok (.iadd, 1) := by decide +kernel
theorem dJ6_bitCount_0f7a4_29 : decode cJ6_bitCount_0f7a4 29 = .ok (.ldc_w 267, 3) := by decide +kernel
theorem dJ6_bitCount_0f7a4_32 : decode cJ6_bitCount_0f7a4 32 = .ok (.iand, 1) := by decide +kernel
theorem dJ6_bitCount_0f7a4_33 : decode cJ6_bitCount_0f7a4 33 = .ok (.istore_n 0, 1) := by decide +kernel
theorem dJ6_bitCount_0f7a4_34 : decode cJ6_bitCount_0f7a4 34 = .ok (.iload_n 0, 1) := by decide +kernel
theorem dJ6_bitCount_0f7a4_35 : decode cJ6_bitCount_0f7a4 35 = .ok (.iload_n 0, 1) := by decide +kernel
theorem dJ6_bitCount_0f7a4_36 : decode cJ6_bitCount_0f7a4 36 = .ok (.bipush 8, 2) := by decide +kernel
theorem dJ6_bitCount_0f7a4_38 : decode cJ6_bitCount_0f7a4 38 = .ok (.iushr, 1) := by decide +kernel
theorem dJ6_bitCount_0f7a4_39 : decode cJ6_bitCount_0f7a4 39 = .ok (.iadd, 1) := by decide +kernel
theorem dJ6_bitCount_0f7a4_40 : decode cJ6_bitCount_0f7a4 40 = .ok (.istore_n 0, 1) := by decide +kernel
theorem dJ6_bitCount_0f7a4_41 : decode cJ6_bitCount_0f7a4 41 = .ok (.iload_n 0, 1) := by decide +kernel
theorem dJ6_bitCount_0f7a4_42 : decode cJ6_bitCount_0f7a4 42 = .ok (.iload_n 0, 1) := by decide +kernel
theorem dJ6_bitCount_0f7a4_43 : decode cJ6_bitCount_0f7a4 43 = .ok (.bipush 16, 2) := by decide +kernel
theorem dJ6_bitCount_0f7a4_45 : decode cJ6_bitCount_0f7a4 45 = .ok (.iushr, 1) := by decide +kernel
theorem dJ6_bitCount_0f7a4_46 : decode cJ6_bitCount_0f7a4 46 = .ok (.iadd, 1) := by decide +kernel
theorem dJ6_bitCount_0f7a4_47 : decode cJ6_bitCount_0f7a4 47 = .ok (.istore_n 0, 1) := by decide +kernel
theorem dJ6_bitCount_0f7a4_48 : decode cJ6_bitCount_0f7a4 48 = .ok (.iload_n 0, 1) := by decide +kernel
theorem dJ6_bitCount_0f7a4_49 : decode cJ6_bitCount_0f7a4 49 = .ok (.bipush 63, 2) := by decide +kernel
theorem dJ6_bitCount_0f7a4_51 : decode cJ6_bitCount_0f7a4 51 = .ok (.iand, 1) := by decide +kernel
theorem dJ6_bitCount_0f7a4_52 : decode cJ6_bitCount_0f7a4 52 = .ok (.ireturn, 1) := by decide +kernel
theorem dJ9_abs_0f7a4_0 : decode cJ9_abs_0f7a4 0 = .ok (.iload_n 0, 1) := by decide +kernel
theorem dJ9_abs_0f7a4_1 : decode cJ9_abs_0f7a4 1 = .ok (.ifCond .ge 8, 3) := by decide +kernel
theorem dJ9_abs_0f7a4_4 : decode cJ9_abs_0f7a4 4 = .ok (.iload_n 0, 1) := by decide +kernel
theorem dJ9_abs_0f7a4_5 : decode cJ9_abs_0f7a4 5 = .ok (.ineg, 1) := by decide +kernel
theorem dJ9_abs_0f7a4_6 : decode cJ9_abs_0f7a4 6 = .ok (.goto 4, 3) := by decide +kernel
theorem dJ9_abs_0f7a4_9 : decode cJ9_abs_0f7a4 9 = .ok (.iload_n 0, 1) := by decide +kernel
theorem dJ9_abs_0f7a4_10 : decode cJ9_abs_0f7a4 10 = .ok (.ireturn, 1) := by decide +kernel
theorem dJ9_max_7cf53_0 : decode cJ9_max_7cf53 0 = .ok (.iload_n 0, 1) := by decide +kernel
theorem dJ9_max_7cf53_1 : decode cJ9_max_7cf53 1 = .ok (.iload_n 1, 1) := by decide +kernel
theorem dJ9_max_7cf53_2 : decode cJ9_max_7cf53 2 = .ok (.if_icmp .lt 7, 3) := by decide +kernel
theorem dJ9_max_7cf53_5 : decode cJ9_max_7cf53 5 = .ok (.iload_n 0, 1) := by decide +kernel
theorem dJ9_max_7cf53_6 : decode cJ9_max_7cf53 6 = .ok (.goto 4, 3) := by decide +kernel
theorem dJ9_max_7cf53_9 : decode cJ9_max_7cf53 9 = .ok (.iload_n 1, 1) := by decide +kernel
theorem dJ9_max_7cf53_10 : decode cJ9_max_7cf53 10 = .ok (.ireturn, 1) := by decide +kernel
theorem dJ9_min_7cf53_0 : decode cJ9_min_7cf53 0 = .ok (.iload_n 0, 1) := by decide +kernel
theorem dJ9_min_7cf53_1 : decode cJ9_min_7cf53 1 = .ok (.iload_n 1, 1) := by decide +kernel
theorem dJ9_min_7cf53_2 : decode cJ9_min_7cf53 2 = .ok (.if_icmp .gt 7, 3) := by decide +kernel
theorem dJ9_min_7cf53_5 : decode cJ9_min_7cf53 5 = .ok (.iload_n 0, 1) := by decide +kernel
theorem dJ9_min_7cf53_6 : decode cJ9_min_7cf53 6 = .ok (.goto 4, 3) := by decide +kernel
theorem dJ9_min_7cf53_9 : decode cJ9_min_7cf53 9 = .ok (.iload_n 1, 1) := by decide +kernel
theorem dJ9_min_7cf53_10 : decode cJ9_min_7cf53 10 = .ok (.ireturn, 1) := by decide +kernel
