theorem dX12_holds_137 : decode cX12_holds 137 = .ok (.if_icmp .ne 7, 3) := by decide +kernel
theorem dX12_holds_140 : decode cX12_holds 140 = .ok (.iconst 1, 1) := by decide +kernel
theorem dX12_holds_141 : decode cX12_holds 141 = .ok (.goto 71, 3) := by decide +kernel
theorem dX12_holds_144 : decode cX12_holds 144 = .ok (.iconst 0, 1) := by decide +kernel
theorem dX12_holds_145 : decode cX12_holds 145 = .ok (.goto 67, 3) := by decide +kernel
theorem dX12_holds_148 : decode cX12_holds 148 = .ok (.aload_n 0, 1) := by decide +kernel
theorem dX12_holds_149 : decode cX12_holds 149 = .ok (.getfield 64, 3) := by decide +kernel
theorem dX12_holds_152 : decode cX12_holds 152 = .ok (.iload 5, 2) := by decide +kernel
theorem dX12_holds_154 : decode cX12_holds 154 = .ok (.iaload, 1) := by decide +kernel
theorem dX12_holds_155 : decode cX12_holds 155 = .ok (.iconst 1, 1) := by decide +kernel
theorem dX12_holds_156 : decode cX12_holds 156 = .ok (.if_icmp .ne 18, 3) := by decide +kernel
theorem dX12_holds_159 : decode cX12_holds 159 = .ok (.iload 6, 2) := by decide +kernel
theorem dX12_holds_161 : decode cX12_holds 161 = .ok (.iload 7, 2) := by decide +kernel
theorem dX12_holds_163 : decode cX12_holds 163 = .ok (.if_icmp .eq 7, 3) := by decide +kernel
theorem dX12_holds_166 : decode cX12_holds 166 = .ok (.iconst 1, 1) := by decide +kernel
theorem dX12_holds_167 : decode cX12_holds 167 = .ok (.goto 45, 3) := by decide +kernel
theorem dX12_holds_170 : decode cX12_holds 170 = .ok (.iconst 0, 1) := by decide +kernel
theorem dX12_holds_171 : decode cX12_holds 171 = .ok (.goto 41, 3) := by decide +kernel
theorem dX12_holds_174 : decode cX12_holds 174 = .ok (.aload_n 0, 1) := by decide +kernel
theorem dX12_holds_175 : decode cX12_holds 175 = .ok (.getfield 64, 3) := by decide +kernel
theorem dX12_holds_178 : decode cX12_holds 178 = .ok (.iload 5, 2) := by decide +kernel
theorem dX12_holds_180 : decode cX12_holds 180 = .ok (.iaload, 1) := by decide +kernel
theorem dX12_holds_181 : decode cX12_holds 181 = .ok (.iconst 2, 1) := by decide +kernel
theorem dX12_holds_182 : decode cX12_holds 182 = .ok (.if_icmp .ne 18, 3) := by decide +kernel
theorem dX12_holds_185 : decode cX12_holds 185 = .ok (.iload 6, 2) := by decide +kernel
theorem dX12_holds_187 : decode cX12_holds 187 = .ok (.iload 7, 2) := by decide +kernel
theorem dX12_holds_189 : decode cX12_holds 189 = .ok (.if_icmp .ge 7, 3) := by decide +kernel
theorem dX12_holds_192 : decode cX12_holds 192 = .ok (.iconst 1, 1) := by decide +kernel
theorem dX12_holds_193 : decode cX12_holds 193 = .ok (.goto 19, 3) := by decide +kernel
theorem dX12_holds_196 : decode cX12_holds 196 = .ok (.iconst 0, 1) := by decide +kernel
theorem dX12_holds_197 : decode cX12_holds 197 = .ok (.goto 15, 3) := by decide +kernel
theorem dX12_holds_200 : decode cX12_holds 200 = .ok (.iload 6, 2) := by decide +kernel
theorem dX12_holds_202 : decode cX12_holds 202 = .ok (.iload 7, 2) := by decide +kernel
theorem dX12_holds_204 : decode cX12_holds 204 = .ok (.if_icmp .gt 7, 3) := by decide +kernel
theorem dX12_holds_207 : decode cX12_holds 207 = .ok (.iconst 1, 1) := by decide +kernel
theorem dX12_holds_208 : decode cX12_holds 208 = .ok (.goto 4, 3) := by decide +kernel
theorem dX12_holds_211 : decode cX12_holds 211 = .ok (.iconst 0, 1) := by decide +kernel
theorem dX12_holds_212 : decode cX12_holds 212 = .ok (.istore_n 3, 1) := by decide +kernel
theorem dX12_holds_213 : decode cX12_holds 213 = .ok (.iinc 4 1, 3) := by decide +kernel
theorem dX12_holds_216 : decode cX12_holds 216 = .ok (.goto (-189), 3) := by decide +kernel
theorem dX12_holds_219 : decode cX12_holds 219 = .ok (.iload_n 3, 1) := by decide +kernel
theorem dX12_holds_220 : decode cX12_holds 220 = .ok (.ireturn, 1) := by decide +kernel
theorem dX12_ruleOf_0 : decode cX12_ruleOf 0 = .ok (.iconst 2, 1) := by decide +kernel
theorem dX12_ruleOf_1 : decode cX12_ruleOf 1 = .ok (.iload_n 1, 1) := by decide +kernel
theorem dX12_ruleOf_2 : decode cX12_ruleOf 2 = .ok (.imul, 1) := by decide +kernel
theorem dX12_ruleOf_3 : decode cX12_ruleOf 3 = .ok (.aload_n 0, 1) := by decide +kernel
theorem dX12_ruleOf_4 : decode cX12_ruleOf 4 = .ok (.getfield 40, 3) := by decide +kernel
theorem dX12_ruleOf_7 : decode cX12_ruleOf 7 = .ok (.iload_n 1, 1) := by decide +kernel
theorem dX12_ruleOf_8 : decode cX12_ruleOf 8 = .ok (.iaload, 1) := by decide +kernel
theorem dX12_ruleOf_9 : decode cX12_ruleOf 9 = .ok (.iadd, 1) := by decide +kernel
theorem dX12_ruleOf_10 : decode cX12_ruleOf 10 = .ok (.istore_n 3, 1) := by decide +kernel
theorem dX12_ruleOf_11 : decode cX12_ruleOf 11 = .ok (.iconst 0, 1) := by decide +kernel
theorem dX12_ruleOf_12 : decode cX12_ruleOf 12 = .ok (.istore 4, 2) := by decide +kernel
theorem dX12_ruleOf_14 : decode cX12_ruleOf 14 = .ok (.iload 4, 2) := by decide +kernel
theorem dX12_ruleOf_16 : decode cX12_ruleOf 16 = .ok (.aload_n 0, 1) := by decide +kernel
theorem dX12_ruleOf_17 : decode cX12_ruleOf 17 = .ok (.getfield 43, 3) := by decide +kernel
theorem dX12_ruleOf_20 : decode cX12_ruleOf 20 = .ok (.iload_n 3, 1) := by decide +kernel
theorem dX12_ruleOf_21 : decode cX12_ruleOf 21 = .ok (.iaload, 1) := by decide +kernel
theorem dX12_ruleOf_22 : decode cX12_ruleOf 22 = .ok (.if_icmp .ge 43, 3) := by decide +kernel
theorem dX12_ruleOf_25 : decode cX12_ruleOf 25 = .ok (.aload_n 0, 1) := by decide +kernel
theorem dX12_ruleOf_26 : decode cX12_ruleOf 26 = .ok (.getfield 46, 3) := by decide +kernel
theorem dX12_ruleOf_29 : decode cX12_ruleOf 29 = .ok (.bipush 20, 2) := by decide +kernel
theorem dX12_ruleOf_31 : decode cX12_ruleOf 31 = .ok (.iload_n 3, 1) := by decide +kernel
theorem dX12_ruleOf_32 : decode cX12_ruleOf 32 = .ok (.imul, 1) := by decide +kernel
theorem dX12_ruleOf_33 : decode cX12_ruleOf 33 = .ok (.iload 4, 2) := by decide +kernel
theorem dX12_ruleOf_35 : decode cX12_ruleOf 35 = .ok (.iadd, 1) := by decide +kernel
theorem dX12_ruleOf_36 : decode cX12_ruleOf 36 = .ok (.iaload, 1) := by decide +kernel
theorem dX12_ruleOf_37 : decode cX12_ruleOf 37 = .ok (.iload_n 2, 1) := by decide +kernel
theorem dX12_ruleOf_38 : decode cX12_ruleOf 38 = .ok (.if_icmp .ne 21, 3) := by decide +kernel
theorem dX12_ruleOf_41 : decode cX12_ruleOf 41 = .ok (.aload_n 0, 1) := by decide +kernel
theorem dX12_ruleOf_42 : decode cX12_ruleOf 42 = .ok (.bipush 20, 2) := by decide +kernel
theorem dX12_ruleOf_44 : decode cX12_ruleOf 44 = .ok (.iload_n 3, 1) := by decide +kernel
theorem dX12_ruleOf_45 : decode cX12_ruleOf 45 = .ok (.imul, 1) := by decide +kernel
theorem dX12_ruleOf_46 : decode cX12_ruleOf 46 = .ok (.iload 4, 2) := by decide +kernel
theorem dX12_ruleOf_48 : decode cX12_ruleOf 48 = .ok (.iadd, 1) := by decide +kernel
theorem dX12_ruleOf_49 : decode cX12_ruleOf 49 = .ok (.iload_n 3, 1) := by decide +kernel
theorem dX12_ruleOf_50 : decode cX12_ruleOf 50 = .ok (.invokevirtual 332, 3) := by decide +kernel
theorem dX12_ruleOf_53 : decode cX12_ruleOf 53 = .ok (.ifCond .eq 6, 3) := by decide +kernel
theorem dX12_ruleOf_56 : decode cX12_ruleOf 56 = .ok (.iload 4, 2) := by decide +kernel
theorem dX12_ruleOf_58 : decode cX12_ruleOf 58 = .ok (.ireturn, 1) := by decide +kernel
theorem dX12_ruleOf_59 : decode cX12_ruleOf 59 = .ok (.iinc 4 1, 3) := by decide +kernel
theorem dX12_ruleOf_62 : decode cX12_ruleOf 62 = .ok (.goto (-48), 3) := by decide +kernel
theorem dX12_ruleOf_65 : decode cX12_ruleOf 65 = .ok (.iconst (-1), 1) := by decide +kernel
theorem dX12_ruleOf_66 : decode cX12_ruleOf 66 = .ok (.ireturn, 1) := by decide +kernel
theorem dX12_termOf_0 : decode cX12_termOf 0 = .ok (.bipush 20, 2) := by decide +kernel
theorem dX12_termOf_2 : decode cX12_termOf 2 = .ok (.iconst 2, 1) := by decide +kernel
theorem dX12_termOf_3 : decode cX12_termOf 3 = .ok (.iload_n 1, 1) := by decide +kernel
theorem dX12_termOf_4 : decode cX12_termOf 4 = .ok (.imul, 1) := by decide +kernel
theorem dX12_termOf_5 : decode cX12_termOf 5 = .ok (.aload_n 0, 1) := by decide +kernel
theorem dX12_termOf_6 : decode cX12_termOf 6 = .ok (.getfield 40, 3) := by decide +kernel
theorem dX12_termOf_9 : decode cX12_termOf 9 = .ok (.iload_n 1, 1) := by decide +kernel
theorem dX12_termOf_10 : decode cX12_termOf 10 = .ok (.iaload, 1) := by decide +kernel
theorem dX12_termOf_11 : decode cX12_termOf 11 = .ok (.iadd, 1) := by decide +kernel
theorem dX12_termOf_12 : decode cX12_termOf 12 = .ok (.imul, 1) := by decide +kernel
theorem dX12_termOf_13 : decode cX12_termOf 13 = .ok (.iload_n 2, 1) := by decide +kernel
theorem dX12_termOf_14 : decode cX12_termOf 14 = .ok (.iadd, 1) := by decide +kernel
theorem dX12_termOf_15 : decode cX12_termOf 15 = .ok (.istore_n 3, 1) := by decide +kernel
theorem dX12_termOf_16 : decode cX12_termOf 16 = .ok (.aload_n 0, 1) := by decide +kernel
theorem dX12_termOf_17 : decode cX12_termOf 17 = .ok (.aload_n 0, 1) := by decide +kernel
theorem dX12_termOf_18 : decode cX12_termOf 18 = .ok (.getfield 49, 3) := by decide +kernel
theorem dX12_termOf_21 : decode cX12_termOf 21 = .ok (.iload_n 3, 1) := by decide +kernel
theorem dX12_termOf_22 : decode cX12_termOf 22 = .ok (.iaload, 1) := by decide +kernel
theorem dX12_termOf_23 : decode cX12_termOf 23 = .ok (.aload_n 0, 1) := by decide +kernel
theorem dX12_termOf_24 : decode cX12_termOf 24 = .ok (.getfield 52, 3) := by decide +kernel
theorem dX12_termOf_27 : decode cX12_termOf 27 = .ok (.iload_n 3, 1) := by decide +kernel
theorem dX12_termOf_28 : decode cX12_termOf 28 = .ok (.iaload, 1) := by decide +kernel
theorem dX12_termOf_29 : decode cX12_termOf 29 = .ok (.invokevirtual 329, 3) := by decide +kernel
theorem dX12_termOf_32 : decode cX12_termOf 32 = .ok (.ireturn, 1) := by decide +kernel
theorem dX12_held_0 : decode cX12_held 0 = .ok (.iload_n 0, 1) := by decide +kernel
theorem dX12_held_1 : decode cX12_held 1 = .ok (.iload_n 1, 1) := by decide +kernel
theorem dX12_held_2 : decode cX12_held 2 = .ok (.if_icmp .ge 7, 3) := by decide +kernel
theorem dX12_held_5 : decode cX12_held 5 = .ok (.iload_n 1, 1) := by decide +kernel
theorem dX12_held_6 : decode cX12_held 6 = .ok (.goto 13, 3) := by decide +kernel
theorem dX12_held_9 : decode cX12_held 9 = .ok (.iload_n 0, 1) := by decide +kernel
theorem dX12_held_10 : decode cX12_held 10 = .ok (.iload_n 2, 1) := by decide +kernel
theorem dX12_held_11 : decode cX12_held 11 = .ok (.if_icmp .le 7, 3) := by decide +kernel
theorem dX12_held_14 : decode cX12_held 14 = .ok (.iload_n 2, 1) := by decide +kernel
theorem dX12_held_15 : decode cX12_held 15 = .ok (.goto 4, 3) := by decide +kernel
theorem dX12_held_18 : decode cX12_held 18 = .ok (.iload_n 0, 1) := by decide +kernel
theorem dX12_held_19 : decode cX12_held 19 = .ok (.ireturn, 1) := by decide +kernel
theorem dX12_startOf_0 : decode cX12_startOf 0 = .ok (.aload_n 0, 1) := by decide +kernel
theorem dX12_startOf_1 : decode cX12_startOf 1 = .ok (.iconst (-1), 1) := by decide +kernel
theorem dX12_startOf_2 : decode cX12_startOf 2 = .ok (.iload_n 1, 1) := by decide +kernel
theorem dX12_startOf_3 : decode cX12_startOf 3 = .ok (.invokevirtual 336, 3) := by decide +kernel
theorem dX12_startOf_6 : decode cX12_startOf 6 = .ok (.aload_n 0, 1) := by decide +kernel
theorem dX12_startOf_7 : decode cX12_startOf 7 = .ok (.iconst 0, 1) := by decide +kernel
theorem dX12_startOf_8 : decode cX12_startOf 8 = .ok (.iconst 1, 1) := by decide +kernel
theorem dX12_startOf_9 : decode cX12_startOf 9 = .ok (.invokevirtual 339, 3) := by decide +kernel
theorem dX12_startOf_12 : decode cX12_startOf 12 = .ok (.istore_n 2, 1) := by decide +kernel
theorem dX12_startOf_13 : decode cX12_startOf 13 = .ok (.iload_n 2, 1) := by decide +kernel
theorem dX12_startOf_14 : decode cX12_startOf 14 = .ok (.iconst (-1), 1) := by decide +kernel
theorem dX12_startOf_15 : decode cX12_startOf 15 = .ok (.if_icmp .ne 8, 3) := by decide +kernel
theorem dX12_startOf_18 : decode cX12_startOf 18 = .ok (.bipush 100, 2) := by decide +kernel
theorem dX12_startOf_20 : decode cX12_startOf 20 = .ok (.goto 16, 3) := by decide +kernel
theorem dX12_startOf_23 : decode cX12_startOf 23 = .ok (.aload_n 0, 1) := by decide +kernel
theorem dX12_startOf_24 : decode cX12_startOf 24 = .ok (.iconst 0, 1) := by decide +kernel
theorem dX12_startOf_25 : decode cX12_startOf 25 = .ok (.iload_n 2, 1) := by decide +kernel
theorem dX12_startOf_26 : decode cX12_startOf 26 = .ok (.invokevirtual 342, 3) := by decide +kernel
theorem dX12_startOf_29 : decode cX12_startOf 29 = .ok (.iconst 1, 1) := by decide +kernel
theorem dX12_startOf_30 : decode cX12_startOf 30 = .ok (.sipush 999, 3) := by decide +kernel
theorem dX12_startOf_33 : decode cX12_startOf 33 = .ok (.invokestatic 345, 3) := by decide +kernel
theorem dX12_startOf_36 : decode cX12_startOf 36 = .ok (.ireturn, 1) := by decide +kernel
theorem dX12_leastOf_0 : decode cX12_leastOf 0 = .ok (.aload_n 0, 1) := by decide +kernel
theorem dX12_leastOf_1 : decode cX12_leastOf 1 = .ok (.iconst (-1), 1) := by decide +kernel
theorem dX12_leastOf_2 : decode cX12_leastOf 2 = .ok (.iload_n 1, 1) := by decide +kernel
theorem dX12_leastOf_3 : decode cX12_leastOf 3 = .ok (.invokevirtual 336, 3) := by decide +kernel
theorem dX12_leastOf_6 : decode cX12_leastOf 6 = .ok (.aload_n 0, 1) := by decide +kernel
theorem dX12_leastOf_7 : decode cX12_leastOf 7 = .ok (.iconst 0, 1) := by decide +kernel
theorem dX12_leastOf_8 : decode cX12_leastOf 8 = .ok (.iconst 2, 1) := by decide +kernel
theorem dX12_leastOf_9 : decode cX12_leastOf 9 = .ok (.invokevirtual 339, 3) := by decide +kernel
theorem dX12_leastOf_12 : decode cX12_leastOf 12 = .ok (.istore_n 3, 1) := by decide +kernel
theorem dX12_leastOf_13 : decode cX12_leastOf 13 = .ok (.iload_n 3, 1) := by decide +kernel
theorem dX12_leastOf_14 : decode cX12_leastOf 14 = .ok (.iconst (-1), 1) := by decide +kernel
theorem dX12_leastOf_15 : decode cX12_leastOf 15 = .ok (.if_icmp .ne 7, 3) := by decide +kernel
theorem dX12_leastOf_18 : decode cX12_leastOf 18 = .ok (.iconst 1, 1) := by decide +kernel
theorem dX12_leastOf_19 : decode cX12_leastOf 19 = .ok (.goto 14, 3) := by decide +kernel
theorem dX12_leastOf_22 : decode cX12_leastOf 22 = .ok (.aload_n 0, 1) := by decide +kernel
theorem dX12_leastOf_23 : decode cX12_leastOf 23 = .ok (.iconst 0, 1) := by decide +kernel
theorem dX12_leastOf_24 : decode cX12_leastOf 24 = .ok (.iload_n 3, 1) := by decide +kernel
theorem dX12_leastOf_25 : decode cX12_leastOf 25 = .ok (.invokevirtual 342, 3) := by decide +kernel
theorem dX12_leastOf_28 : decode cX12_leastOf 28 = .ok (.iconst 1, 1) := by decide +kernel
theorem dX12_leastOf_29 : decode cX12_leastOf 29 = .ok (.iload_n 2, 1) := by decide +kernel
theorem dX12_leastOf_30 : decode cX12_leastOf 30 = .ok (.invokestatic 345, 3) := by decide +kernel
theorem dX12_leastOf_33 : decode cX12_leastOf 33 = .ok (.ireturn, 1) := by decide +kernel
theorem dX12_limitOf_0 : decode cX12_limitOf 0 = .ok (.aload_n 0, 1) := by decide +kernel
theorem dX12_limitOf_1 : decode cX12_limitOf 1 = .ok (.iload_n 1, 1) := by decide +kernel
theorem dX12_limitOf_2 : decode cX12_limitOf 2 = .ok (.aload_n 0, 1) := by decide +kernel
theorem dX12_limitOf_3 : decode cX12_limitOf 3 = .ok (.getfield 92, 3) := by decide +kernel
theorem dX12_limitOf_6 : decode cX12_limitOf 6 = .ok (.iload_n 2, 1) := by decide +kernel
theorem dX12_limitOf_7 : decode cX12_limitOf 7 = .ok (.iaload, 1) := by decide +kernel
theorem dX12_limitOf_8 : decode cX12_limitOf 8 = .ok (.invokevirtual 325, 3) := by decide +kernel
theorem dX12_limitOf_11 : decode cX12_limitOf 11 = .ok (.aload_n 0, 1) := by decide +kernel
theorem dX12_limitOf_12 : decode cX12_limitOf 12 = .ok (.getfield 98, 3) := by decide +kernel
theorem dX12_limitOf_15 : decode cX12_limitOf 15 = .ok (.iload_n 2, 1) := by decide +kernel
theorem dX12_limitOf_16 : decode cX12_limitOf 16 = .ok (.iaload, 1) := by decide +kernel
theorem dX12_limitOf_17 : decode cX12_limitOf 17 = .ok (.if_icmp .ge 5, 3) := by decide +kernel
theorem dX12_limitOf_20 : decode cX12_limitOf 20 = .ok (.iconst 0, 1) := by decide +kernel
theorem dX12_limitOf_21 : decode cX12_limitOf 21 = .ok (.ireturn, 1) := by decide +kernel
theorem dX12_limitOf_22 : decode cX12_limitOf 22 = .ok (.aload_n 0, 1) := by decide +kernel
theorem dX12_limitOf_23 : decode cX12_limitOf 23 = .ok (.iload_n 1, 1) := by decide +kernel
theorem dX12_limitOf_24 : decode cX12_limitOf 24 = .ok (.iload_n 2, 1) := by decide +kernel
theorem dX12_limitOf_25 : decode cX12_limitOf 25 = .ok (.invokevirtual 336, 3) := by decide +kernel
theorem dX12_limitOf_28 : decode cX12_limitOf 28 = .ok (.aload_n 0, 1) := by decide +kernel
theorem dX12_limitOf_29 : decode cX12_limitOf 29 = .ok (.iload_n 1, 1) := by decide +kernel
theorem dX12_limitOf_30 : decode cX12_limitOf 30 = .ok (.iconst 1, 1) := by decide +kernel
theorem dX12_limitOf_31 : decode cX12_limitOf 31 = .ok (.iadd, 1) := by decide +kernel
theorem dX12_limitOf_32 : decode cX12_limitOf 32 = .ok (.iconst 0, 1) := by decide +kernel
theorem dX12_limitOf_33 : decode cX12_limitOf 33 = .ok (.invokevirtual 339, 3) := by decide +kernel
theorem dX12_limitOf_36 : decode cX12_limitOf 36 = .ok (.istore_n 3, 1) := by decide +kernel
theorem dX12_limitOf_37 : decode cX12_limitOf 37 = .ok (.iload_n 3, 1) := by decide +kernel
theorem dX12_limitOf_38 : decode cX12_limitOf 38 = .ok (.iconst (-1), 1) := by decide +kernel
theorem dX12_limitOf_39 : decode cX12_limitOf 39 = .ok (.if_icmp .ne 5, 3) := by decide +kernel
theorem dX12_limitOf_42 : decode cX12_limitOf 42 = .ok (.iconst 0, 1) := by decide +kernel
theorem dX12_limitOf_43 : decode cX12_limitOf 43 = .ok (.ireturn, 1) := by decide +kernel
theorem dX12_limitOf_44 : decode cX12_limitOf 44 = .ok (.aload_n 0, 1) := by decide +kernel
theorem dX12_limitOf_45 : decode cX12_limitOf 45 = .ok (.iload_n 1, 1) := by decide +kernel
theorem dX12_limitOf_46 : decode cX12_limitOf 46 = .ok (.iconst 1, 1) := by decide +kernel
theorem dX12_limitOf_47 : decode cX12_limitOf 47 = .ok (.iadd, 1) := by decide +kernel
theorem dX12_limitOf_48 : decode cX12_limitOf 48 = .ok (.iload_n 3, 1) := by decide +kernel
theorem dX12_limitOf_49 : decode cX12_limitOf 49 = .ok (.invokevirtual 342, 3) := by decide +kernel
theorem dX12_limitOf_52 : decode cX12_limitOf 52 = .ok (.istore 4, 2) := by decide +kernel
theorem dX12_limitOf_54 : decode cX12_limitOf 54 = .ok (.aload_n 0, 1) := by decide +kernel
theorem dX12_limitOf_55 : decode cX12_limitOf 55 = .ok (.getfield 107, 3) := by decide +kernel
theorem dX12_limitOf_58 : decode cX12_limitOf 58 = .ok (.iload_n 1, 1) := by decide +kernel
theorem dX12_limitOf_59 : decode cX12_limitOf 59 = .ok (.iaload, 1) := by decide +kernel
theorem dX12_limitOf_60 : decode cX12_limitOf 60 = .ok (.aload_n 0, 1) := by decide +kernel
theorem dX12_limitOf_61 : decode cX12_limitOf 61 = .ok (.getfield 143, 3) := by decide +kernel
theorem dX12_limitOf_64 : decode cX12_limitOf 64 = .ok (.iload_n 1, 1) := by decide +kernel
theorem dX12_limitOf_65 : decode cX12_limitOf 65 = .ok (.iaload, 1) := by decide +kernel
theorem dX12_limitOf_66 : decode cX12_limitOf 66 = .ok (.isub, 1) := by decide +kernel
theorem dX12_limitOf_67 : decode cX12_limitOf 67 = .ok (.aload_n 0, 1) := by decide +kernel
theorem dX12_limitOf_68 : decode cX12_limitOf 68 = .ok (.getfield 98, 3) := by decide +kernel
theorem dX12_limitOf_71 : decode cX12_limitOf 71 = .ok (.iload_n 2, 1) := by decide +kernel
theorem dX12_limitOf_72 : decode cX12_limitOf 72 = .ok (.iaload, 1) := by decide +kernel
theorem dX12_limitOf_73 : decode cX12_limitOf 73 = .ok (.idiv, 1) := by decide +kernel
theorem dX12_limitOf_74 : decode cX12_limitOf 74 = .ok (.istore 5, 2) := by decide +kernel
theorem dX12_limitOf_76 : decode cX12_limitOf 76 = .ok (.iload 4, 2) := by decide +kernel
theorem dX12_limitOf_78 : decode cX12_limitOf 78 = .ok (.iload 5, 2) := by decide +kernel
theorem dX12_limitOf_80 : decode cX12_limitOf 80 = .ok (.if_icmp .ge 8, 3) := by decide +kernel
theorem dX12_limitOf_83 : decode cX12_limitOf 83 = .ok (.iload 4, 2) := by decide +kernel
theorem dX12_limitOf_85 : decode cX12_limitOf 85 = .ok (.goto 5, 3) := by decide +kernel
theorem dX12_limitOf_88 : decode cX12_limitOf 88 = .ok (.iload 5, 2) := by decide +kernel
theorem dX12_limitOf_90 : decode cX12_limitOf 90 = .ok (.ireturn, 1) := by decide +kernel
theorem dX12_goes_0 : decode cX12_goes 0 = .ok (.iconst 0, 1) := by decide +kernel
theorem dX12_goes_1 : decode cX12_goes 1 = .ok (.istore_n 2, 1) := by decide +kernel
theorem dX12_goes_2 : decode cX12_goes 2 = .ok (.iload_n 2, 1) := by decide +kernel
theorem dX12_goes_3 : decode cX12_goes 3 = .ok (.bipush 36, 2) := by decide +kernel
theorem dX12_goes_5 : decode cX12_goes 5 = .ok (.if_icmp .ge 16, 3) := by decide +kernel
theorem dX12_goes_8 : decode cX12_goes 8 = .ok (.aload_n 0, 1) := by decide +kernel
theorem dX12_goes_9 : decode cX12_goes 9 = .ok (.getfield 140, 3) := by decide +kernel
theorem dX12_goes_12 : decode cX12_goes 12 = .ok (.iload_n 2, 1) := by decide +kernel
theorem dX12_goes_13 : decode cX12_goes 13 = .ok (.iconst 0, 1) := by decide +kernel
theorem dX12_goes_14 : decode cX12_goes 14 = .ok (.iastore, 1) := by decide +kernel
theorem dX12_goes_15 : decode cX12_goes 15 = .ok (.iinc 2 1, 3) := by decide +kernel
theorem dX12_goes_18 : decode cX12_goes 18 = .ok (.goto (-16), 3) := by decide +kernel
theorem dX12_goes_21 : decode cX12_goes 21 = .ok (.iconst 0, 1) := by decide +kernel
theorem dX12_goes_22 : decode cX12_goes 22 = .ok (.istore_n 2, 1) := by decide +kernel
theorem dX12_goes_23 : decode cX12_goes 23 = .ok (.iload_n 2, 1) := by decide +kernel
theorem dX12_goes_24 : decode cX12_goes 24 = .ok (.bipush 6, 2) := by decide +kernel
theorem dX12_goes_26 : decode cX12_goes 26 = .ok (.if_icmp .ge 16, 3) := by decide +kernel
theorem dX12_goes_29 : decode cX12_goes 29 = .ok (.aload_n 0, 1) := by decide +kernel
theorem dX12_goes_30 : decode cX12_goes 30 = .ok (.getfield 143, 3) := by decide +kernel
theorem dX12_goes_33 : decode cX12_goes 33 = .ok (.iload_n 2, 1) := by decide +kernel
theorem dX12_goes_34 : decode cX12_goes 34 = .ok (.iconst 0, 1) := by decide +kernel
theorem dX12_goes_35 : decode cX12_goes 35 = .ok (.iastore, 1) := by decide +kernel
theorem dX12_goes_36 : decode cX12_goes 36 = .ok (.iinc 2 1, 3) := by decide +kernel
theorem dX12_goes_39 : decode cX12_goes 39 = .ok (.goto (-16), 3) := by decide +kernel
theorem dX12_goes_42 : decode cX12_goes 42 = .ok (.iconst 0, 1) := by decide +kernel
theorem dX12_goes_43 : decode cX12_goes 43 = .ok (.istore_n 2, 1) := by decide +kernel
theorem dX12_goes_44 : decode cX12_goes 44 = .ok (.iload_n 2, 1) := by decide +kernel
theorem dX12_goes_45 : decode cX12_goes 45 = .ok (.iconst 3, 1) := by decide +kernel
theorem dX12_goes_46 : decode cX12_goes 46 = .ok (.if_icmp .ge 16, 3) := by decide +kernel
theorem dX12_goes_49 : decode cX12_goes 49 = .ok (.aload_n 0, 1) := by decide +kernel
theorem dX12_goes_50 : decode cX12_goes 50 = .ok (.getfield 146, 3) := by decide +kernel
theorem dX12_goes_53 : decode cX12_goes 53 = .ok (.iload_n 2, 1) := by decide +kernel
theorem dX12_goes_54 : decode cX12_goes 54 = .ok (.iconst (-1), 1) := by decide +kernel
theorem dX12_goes_55 : decode cX12_goes 55 = .ok (.iastore, 1) := by decide +kernel
theorem dX12_goes_56 : decode cX12_goes 56 = .ok (.iinc 2 1, 3) := by decide +kernel
theorem dX12_goes_59 : decode cX12_goes 59 = .ok (.goto (-15), 3) := by decide +kernel
theorem dX12_goes_62 : decode cX12_goes 62 = .ok (.iconst 0, 1) := by decide +kernel
theorem dX12_goes_63 : decode cX12_goes 63 = .ok (.istore_n 2, 1) := by decide +kernel
theorem dX12_goes_64 : decode cX12_goes 64 = .ok (.iload_n 2, 1) := by decide +kernel
theorem dX12_goes_65 : decode cX12_goes 65 = .ok (.aload_n 0, 1) := by decide +kernel
theorem dX12_goes_66 : decode cX12_goes 66 = .ok (.getfield 307, 3) := by decide +kernel
theorem dX12_goes_69 : decode cX12_goes 69 = .ok (.if_icmp .ge 37, 3) := by decide +kernel
theorem dX12_goes_72 : decode cX12_goes 72 = .ok (.aload_n 0, 1) := by decide +kernel
theorem dX12_goes_73 : decode cX12_goes 73 = .ok (.getfield 164, 3) := by decide +kernel
theorem dX12_goes_76 : decode cX12_goes 76 = .ok (.iload_n 2, 1) := by decide +kernel
theorem dX12_goes_77 : decode cX12_goes 77 = .ok (.aload_n 0, 1) := by decide +kernel
theorem dX12_goes_78 : decode cX12_goes 78 = .ok (.iload_n 2, 1) := by decide +kernel
theorem dX12_goes_79 : decode cX12_goes 79 = .ok (.invokevirtual 348, 3) := by decide +kernel
theorem dX12_goes_82 : decode cX12_goes 82 = .ok (.iastore, 1) := by decide +kernel
theorem dX12_goes_83 : decode cX12_goes 83 = .ok (.aload_n 0, 1) := by decide +kernel
theorem dX12_goes_84 : decode cX12_goes 84 = .ok (.getfield 167, 3) := by decide +kernel
theorem dX12_goes_87 : decode cX12_goes 87 = .ok (.iload_n 2, 1) := by decide +kernel
theorem dX12_goes_88 : decode cX12_goes 88 = .ok (.aload_n 0, 1) := by decide +kernel
theorem dX12_goes_89 : decode cX12_goes 89 = .ok (.iload_n 2, 1) := by decide +kernel
theorem dX12_goes_90 : decode cX12_goes 90 = .ok (.aload_n 0, 1) := by decide +kernel
theorem dX12_goes_91 : decode cX12_goes 91 = .ok (.getfield 164, 3) := by decide +kernel
theorem dX12_goes_94 : decode cX12_goes 94 = .ok (.iload_n 2, 1) := by decide +kernel
theorem dX12_goes_95 : decode cX12_goes 95 = .ok (.iaload, 1) := by decide +kernel
theorem dX12_goes_96 : decode cX12_goes 96 = .ok (.invokevirtual 351, 3) := by decide +kernel
theorem dX12_goes_99 : decode cX12_goes 99 = .ok (.iastore, 1) := by decide +kernel
theorem dX12_goes_100 : decode cX12_goes 100 = .ok (.iinc 2 1, 3) := by decide +kernel
theorem dX12_goes_103 : decode cX12_goes 103 = .ok (.goto (-39), 3) := by decide +kernel
theorem dX12_goes_106 : decode cX12_goes 106 = .ok (.iconst 0, 1) := by decide +kernel
theorem dX12_goes_107 : decode cX12_goes 107 = .ok (.istore_n 2, 1) := by decide +kernel
theorem dX12_goes_108 : decode cX12_goes 108 = .ok (.iconst 0, 1) := by decide +kernel
theorem dX12_goes_109 : decode cX12_goes 109 = .ok (.istore_n 3, 1) := by decide +kernel
theorem dX12_goes_110 : decode cX12_goes 110 = .ok (.iconst (-1), 1) := by decide +kernel
theorem dX12_goes_111 : decode cX12_goes 111 = .ok (.istore 4, 2) := by decide +kernel
theorem dX12_goes_113 : decode cX12_goes 113 = .ok (.iload_n 3, 1) := by decide +kernel
theorem dX12_goes_114 : decode cX12_goes 114 = .ok (.aload_n 0, 1) := by decide +kernel
theorem dX12_goes_115 : decode cX12_goes 115 = .ok (.getfield 307, 3) := by decide +kernel
theorem dX12_goes_118 : decode cX12_goes 118 = .ok (.if_icmp .ge 259, 3) := by decide +kernel
theorem dX12_goes_121 : decode cX12_goes 121 = .ok (.iinc 4 1, 3) := by decide +kernel
theorem dX12_goes_124 : decode cX12_goes 124 = .ok (.iconst 0, 1) := by decide +kernel
theorem dX12_goes_125 : decode cX12_goes 125 = .ok (.istore 5, 2) := by decide +kernel
theorem dX12_goes_127 : decode cX12_goes 127 = .ok (.iload 5, 2) := by decide +kernel
theorem dX12_goes_129 : decode cX12_goes 129 = .ok (.iconst 3, 1) := by decide +kernel
theorem dX12_goes_130 : decode cX12_goes 130 = .ok (.if_icmp .ge 55, 3) := by decide +kernel
theorem dX12_goes_133 : decode cX12_goes 133 = .ok (.aload_n 0, 1) := by decide +kernel
theorem dX12_goes_134 : decode cX12_goes 134 = .ok (.getfield 146, 3) := by decide +kernel
theorem dX12_goes_137 : decode cX12_goes 137 = .ok (.iload 5, 2) := by decide +kernel
theorem dX12_goes_139 : decode cX12_goes 139 = .ok (.iaload, 1) := by decide +kernel
theorem dX12_goes_140 : decode cX12_goes 140 = .ok (.iconst (-1), 1) := by decide +kernel
theorem dX12_goes_141 : decode cX12_goes 141 = .ok (.if_icmp .ne 38, 3) := by decide +kernel
theorem dX12_goes_144 : decode cX12_goes 144 = .ok (.iload_n 2, 1) := by decide +kernel
theorem dX12_goes_145 : decode cX12_goes 145 = .ok (.aload_n 0, 1) := by decide +kernel
theorem dX12_goes_146 : decode cX12_goes 146 = .ok (.getfield 307, 3) := by decide +kernel
theorem dX12_goes_149 : decode cX12_goes 149 = .ok (.if_icmp .ne 6, 3) := by decide +kernel
theorem dX12_goes_152 : decode cX12_goes 152 = .ok (.goto 27, 3) := by decide +kernel
theorem dX12_goes_155 : decode cX12_goes 155 = .ok (.aload_n 0, 1) := by decide +kernel
theorem dX12_goes_156 : decode cX12_goes 156 = .ok (.getfield 146, 3) := by decide +kernel
theorem dX12_goes_159 : decode cX12_goes 159 = .ok (.iload 5, 2) := by decide +kernel
theorem dX12_goes_161 : decode cX12_goes 161 = .ok (.iload_n 2, 1) := by decide +kernel
theorem dX12_goes_162 : decode cX12_goes 162 = .ok (.iastore, 1) := by decide +kernel
theorem dX12_goes_163 : decode cX12_goes 163 = .ok (.aload_n 0, 1) := by decide +kernel
theorem dX12_goes_164 : decode cX12_goes 164 = .ok (.getfield 149, 3) := by decide +kernel
theorem dX12_goes_167 : decode cX12_goes 167 = .ok (.iload 5, 2) := by decide +kernel
theorem dX12_goes_169 : decode cX12_goes 169 = .ok (.aload_n 0, 1) := by decide +kernel
theorem dX12_goes_170 : decode cX12_goes 170 = .ok (.getfield 164, 3) := by decide +kernel
theorem dX12_goes_173 : decode cX12_goes 173 = .ok (.iload_n 2, 1) := by decide +kernel
theorem dX12_goes_174 : decode cX12_goes 174 = .ok (.iaload, 1) := by decide +kernel
theorem dX12_goes_175 : decode cX12_goes 175 = .ok (.iastore, 1) := by decide +kernel
theorem dX12_goes_176 : decode cX12_goes 176 = .ok (.iinc 2 1, 3) := by decide +kernel
theorem dX12_goes_179 : decode cX12_goes 179 = .ok (.iinc 5 1, 3) := by decide +kernel
theorem dX12_goes_182 : decode cX12_goes 182 = .ok (.goto (-55), 3) := by decide +kernel
theorem dX12_goes_185 : decode cX12_goes 185 = .ok (.iconst 0, 1) := by decide +kernel
theorem dX12_goes_186 : decode cX12_goes 186 = .ok (.istore 5, 2) := by decide +kernel
theorem dX12_goes_188 : decode cX12_goes 188 = .ok (.iload 5, 2) := by decide +kernel
theorem dX12_goes_190 : decode cX12_goes 190 = .ok (.bipush 6, 2) := by decide +kernel
theorem dX12_goes_192 : decode cX12_goes 192 = .ok (.if_icmp .ge 27, 3) := by decide +kernel
theorem dX12_goes_195 : decode cX12_goes 195 = .ok (.aload_n 0, 1) := by decide +kernel
theorem dX12_goes_196 : decode cX12_goes 196 = .ok (.getfield 170, 3) := by decide +kernel
theorem dX12_goes_199 : decode cX12_goes 199 = .ok (.iload 5, 2) := by decide +kernel
theorem dX12_goes_201 : decode cX12_goes 201 = .ok (.iload 5, 2) := by decide +kernel
theorem dX12_goes_203 : decode cX12_goes 203 = .ok (.iload_n 1, 1) := by decide +kernel
theorem dX12_goes_204 : decode cX12_goes 204 = .ok (.if_icmp .ne 7, 3) := by decide +kernel
theorem dX12_goes_207 : decode cX12_goes 207 = .ok (.iconst 1, 1) := by decide +kernel
theorem dX12_goes_208 : decode cX12_goes 208 = .ok (.goto 4, 3) := by decide +kernel
theorem dX12_goes_211 : decode cX12_goes 211 = .ok (.iconst 0, 1) := by decide +kernel
theorem dX12_goes_212 : decode cX12_goes 212 = .ok (.bastore, 1) := by decide +kernel
theorem dX12_goes_213 : decode cX12_goes 213 = .ok (.iinc 5 1, 3) := by decide +kernel
theorem dX12_goes_216 : decode cX12_goes 216 = .ok (.goto (-28), 3) := by decide +kernel
theorem dX12_goes_219 : decode cX12_goes 219 = .ok (.iconst 0, 1) := by decide +kernel
theorem dX12_goes_220 : decode cX12_goes 220 = .ok (.istore 5, 2) := by decide +kernel
theorem dX12_goes_222 : decode cX12_goes 222 = .ok (.iload 5, 2) := by decide +kernel
theorem dX12_goes_224 : decode cX12_goes 224 = .ok (.iconst 3, 1) := by decide +kernel
theorem dX12_goes_225 : decode cX12_goes 225 = .ok (.if_icmp .ge 34, 3) := by decide +kernel
theorem dX12_goes_228 : decode cX12_goes 228 = .ok (.aload_n 0, 1) := by decide +kernel
theorem dX12_goes_229 : decode cX12_goes 229 = .ok (.getfield 146, 3) := by decide +kernel
theorem dX12_goes_232 : decode cX12_goes 232 = .ok (.iload 5, 2) := by decide +kernel
theorem dX12_goes_234 : decode cX12_goes 234 = .ok (.iaload, 1) := by decide +kernel
theorem dX12_goes_235 : decode cX12_goes 235 = .ok (.iconst (-1), 1) := by decide +kernel
theorem dX12_goes_236 : decode cX12_goes 236 = .ok (.if_icmp .eq 17, 3) := by decide +kernel
theorem dX12_goes_239 : decode cX12_goes 239 = .ok (.aload_n 0, 1) := by decide +kernel
theorem dX12_goes_240 : decode cX12_goes 240 = .ok (.iload 5, 2) := by decide +kernel
theorem dX12_goes_242 : decode cX12_goes 242 = .ok (.iload 4, 2) := by decide +kernel
theorem dX12_goes_244 : decode cX12_goes 244 = .ok (.invokevirtual 354, 3) := by decide +kernel
theorem dX12_goes_247 : decode cX12_goes 247 = .ok (.ifCond .eq 6, 3) := by decide +kernel
theorem dX12_goes_250 : decode cX12_goes 250 = .ok (.iinc 3 1, 3) := by decide +kernel
theorem dX12_goes_253 : decode cX12_goes 253 = .ok (.iinc 5 1, 3) := by decide +kernel
theorem dX12_goes_256 : decode cX12_goes 256 = .ok (.goto (-34), 3) := by decide +kernel
theorem dX12_goes_259 : decode cX12_goes 259 = .ok (.iconst 0, 1) := by decide +kernel
theorem dX12_goes_260 : decode cX12_goes 260 = .ok (.istore 5, 2) := by decide +kernel
theorem dX12_goes_262 : decode cX12_goes 262 = .ok (.iload 5, 2) := by decide +kernel
theorem dX12_goes_264 : decode cX12_goes 264 = .ok (.iconst 3, 1) := by decide +kernel
theorem dX12_goes_265 : decode cX12_goes 265 = .ok (.if_icmp .ge 109, 3) := by decide +kernel
theorem dX12_goes_268 : decode cX12_goes 268 = .ok (.aload_n 0, 1) := by decide +kernel
theorem dX12_goes_269 : decode cX12_goes 269 = .ok (.getfield 146, 3) := by decide +kernel
theorem dX12_goes_272 : decode cX12_goes 272 = .ok (.iload 5, 2) := by decide +kernel
theorem dX12_goes_274 : decode cX12_goes 274 = .ok (.iaload, 1) := by decide +kernel
theorem dX12_goes_275 : decode cX12_goes 275 = .ok (.istore 6, 2) := by decide +kernel
theorem dX12_goes_277 : decode cX12_goes 277 = .ok (.iload 6, 2) := by decide +kernel
theorem dX12_goes_279 : decode cX12_goes 279 = .ok (.iconst (-1), 1) := by decide +kernel
theorem dX12_goes_280 : decode cX12_goes 280 = .ok (.if_icmp .ne 6, 3) := by decide +kernel
theorem dX12_goes_283 : decode cX12_goes 283 = .ok (.goto 85, 3) := by decide +kernel
theorem dX12_goes_286 : decode cX12_goes 286 = .ok (.aload_n 0, 1) := by decide +kernel
theorem dX12_goes_287 : decode cX12_goes 287 = .ok (.getfield 149, 3) := by decide +kernel
theorem dX12_goes_290 : decode cX12_goes 290 = .ok (.iload 5, 2) := by decide +kernel
theorem dX12_goes_292 : decode cX12_goes 292 = .ok (.iaload, 1) := by decide +kernel
theorem dX12_goes_293 : decode cX12_goes 293 = .ok (.aload_n 0, 1) := by decide +kernel
theorem dX12_goes_294 : decode cX12_goes 294 = .ok (.getfield 167, 3) := by decide +kernel
theorem dX12_goes_297 : decode cX12_goes 297 = .ok (.iload 6, 2) := by decide +kernel
theorem dX12_goes_299 : decode cX12_goes 299 = .ok (.iaload, 1) := by decide +kernel
theorem dX12_goes_300 : decode cX12_goes 300 = .ok (.if_icmp .le 17, 3) := by decide +kernel
theorem dX12_goes_303 : decode cX12_goes 303 = .ok (.aload_n 0, 1) := by decide +kernel
theorem dX12_goes_304 : decode cX12_goes 304 = .ok (.getfield 149, 3) := by decide +kernel
theorem dX12_goes_307 : decode cX12_goes 307 = .ok (.iload 5, 2) := by decide +kernel
theorem dX12_goes_309 : decode cX12_goes 309 = .ok (.dup2, 1) := by decide +kernel
theorem dX12_goes_310 : decode cX12_goes 310 = .ok (.iaload, 1) := by decide +kernel
theorem dX12_goes_311 : decode cX12_goes 311 = .ok (.iconst 1, 1) := by decide +kernel
theorem dX12_goes_312 : decode cX12_goes 312 = .ok (.isub, 1) := by decide +kernel
theorem dX12_goes_313 : decode cX12_goes 313 = .ok (.iastore, 1) := by decide +kernel
theorem dX12_goes_314 : decode cX12_goes 314 = .ok (.goto 54, 3) := by decide +kernel
theorem dX12_goes_317 : decode cX12_goes 317 = .ok (.aload_n 0, 1) := by decide +kernel
theorem dX12_goes_318 : decode cX12_goes 318 = .ok (.getfield 152, 3) := by decide +kernel
theorem dX12_goes_321 : decode cX12_goes 321 = .ok (.iload 6, 2) := by decide +kernel
theorem dX12_goes_323 : decode cX12_goes 323 = .ok (.iconst (-1), 1) := by decide +kernel
theorem dX12_goes_324 : decode cX12_goes 324 = .ok (.iastore, 1) := by decide +kernel
theorem dX12_goes_325 : decode cX12_goes 325 = .ok (.aload_n 0, 1) := by decide +kernel
theorem dX12_goes_326 : decode cX12_goes 326 = .ok (.getfield 155, 3) := by decide +kernel
theorem dX12_goes_329 : decode cX12_goes 329 = .ok (.iload 6, 2) := by decide +kernel
theorem dX12_goes_331 : decode cX12_goes 331 = .ok (.aload_n 0, 1) := by decide +kernel
theorem dX12_goes_332 : decode cX12_goes 332 = .ok (.getfield 167, 3) := by decide +kernel
theorem dX12_goes_335 : decode cX12_goes 335 = .ok (.iload 6, 2) := by decide +kernel
theorem dX12_goes_337 : decode cX12_goes 337 = .ok (.iaload, 1) := by decide +kernel
theorem dX12_goes_338 : decode cX12_goes 338 = .ok (.iastore, 1) := by decide +kernel
theorem dX12_goes_339 : decode cX12_goes 339 = .ok (.aload_n 0, 1) := by decide +kernel
theorem dX12_goes_340 : decode cX12_goes 340 = .ok (.getfield 158, 3) := by decide +kernel
theorem dX12_goes_343 : decode cX12_goes 343 = .ok (.iload 6, 2) := by decide +kernel
theorem dX12_goes_345 : decode cX12_goes 345 = .ok (.iload 4, 2) := by decide +kernel
theorem dX12_goes_347 : decode cX12_goes 347 = .ok (.iastore, 1) := by decide +kernel
theorem dX12_goes_348 : decode cX12_goes 348 = .ok (.aload_n 0, 1) := by decide +kernel
theorem dX12_goes_349 : decode cX12_goes 349 = .ok (.getfield 161, 3) := by decide +kernel
theorem dX12_goes_352 : decode cX12_goes 352 = .ok (.iload 6, 2) := by decide +kernel
theorem dX12_goes_354 : decode cX12_goes 354 = .ok (.iload 5, 2) := by decide +kernel
theorem dX12_goes_356 : decode cX12_goes 356 = .ok (.iastore, 1) := by decide +kernel
theorem dX12_goes_357 : decode cX12_goes 357 = .ok (.aload_n 0, 1) := by decide +kernel
theorem dX12_goes_358 : decode cX12_goes 358 = .ok (.getfield 146, 3) := by decide +kernel
theorem dX12_goes_361 : decode cX12_goes 361 = .ok (.iload 5, 2) := by decide +kernel
theorem dX12_goes_363 : decode cX12_goes 363 = .ok (.iconst (-1), 1) := by decide +kernel
theorem dX12_goes_364 : decode cX12_goes 364 = .ok (.iastore, 1) := by decide +kernel
theorem dX12_goes_365 : decode cX12_goes 365 = .ok (.iinc 3 1, 3) := by decide +kernel
theorem dX12_goes_368 : decode cX12_goes 368 = .ok (.iinc 5 1, 3) := by decide +kernel
theorem dX12_goes_371 : decode cX12_goes 371 = .ok (.goto (-109), 3) := by decide +kernel
theorem dX12_goes_374 : decode cX12_goes 374 = .ok (.goto (-261), 3) := by decide +kernel
theorem dX12_goes_377 : decode cX12_goes 377 = .ok (.iload 4, 2) := by decide +kernel
theorem dX12_goes_379 : decode cX12_goes 379 = .ok (.ireturn, 1) := by decide +kernel
theorem dX12_stops_0 : decode cX12_stops 0 = .ok (.aload_n 0, 1) := by decide +kernel
theorem dX12_stops_1 : decode cX12_stops 1 = .ok (.getfield 146, 3) := by decide +kernel
theorem dX12_stops_4 : decode cX12_stops 4 = .ok (.iload_n 1, 1) := by decide +kernel
theorem dX12_stops_5 : decode cX12_stops 5 = .ok (.iaload, 1) := by decide +kernel
theorem dX12_stops_6 : decode cX12_stops 6 = .ok (.istore_n 3, 1) := by decide +kernel
theorem dX12_stops_7 : decode cX12_stops 7 = .ok (.iconst (-1), 1) := by decide +kernel
theorem dX12_stops_8 : decode cX12_stops 8 = .ok (.istore 4, 2) := by decide +kernel
theorem dX12_stops_10 : decode cX12_stops 10 = .ok (.iconst 0, 1) := by decide +kernel
theorem dX12_stops_11 : decode cX12_stops 11 = .ok (.istore 5, 2) := by decide +kernel
theorem dX12_stops_13 : decode cX12_stops 13 = .ok (.iconst 0, 1) := by decide +kernel
theorem dX12_stops_14 : decode cX12_stops 14 = .ok (.istore 6, 2) := by decide +kernel
theorem dX12_stops_16 : decode cX12_stops 16 = .ok (.iload 6, 2) := by decide +kernel
theorem dX12_stops_18 : decode cX12_stops 18 = .ok (.aload_n 0, 1) := by decide +kernel
theorem dX12_stops_19 : decode cX12_stops 19 = .ok (.getfield 269, 3) := by decide +kernel
theorem dX12_stops_22 : decode cX12_stops 22 = .ok (.if_icmp .ge 66, 3) := by decide +kernel
theorem dX12_stops_25 : decode cX12_stops 25 = .ok (.aload_n 0, 1) := by decide +kernel
theorem dX12_stops_26 : decode cX12_stops 26 = .ok (.getfield 170, 3) := by decide +kernel
theorem dX12_stops_29 : decode cX12_stops 29 = .ok (.iload 6, 2) := by decide +kernel
theorem dX12_stops_31 : decode cX12_stops 31 = .ok (.baload, 1) := by decide +kernel
theorem dX12_stops_32 : decode cX12_stops 32 = .ok (.ifCond .eq 6, 3) := by decide +kernel
theorem dX12_stops_35 : decode cX12_stops 35 = .ok (.goto 47, 3) := by decide +kernel
theorem dX12_stops_38 : decode cX12_stops 38 = .ok (.aload_n 0, 1) := by decide +kernel
theorem dX12_stops_39 : decode cX12_stops 39 = .ok (.iload 6, 2) := by decide +kernel
theorem dX12_stops_41 : decode cX12_stops 41 = .ok (.iload_n 3, 1) := by decide +kernel
theorem dX12_stops_42 : decode cX12_stops 42 = .ok (.invokevirtual 357, 3) := by decide +kernel
theorem dX12_stops_45 : decode cX12_stops 45 = .ok (.istore 7, 2) := by decide +kernel
theorem dX12_stops_47 : decode cX12_stops 47 = .ok (.iload 7, 2) := by decide +kernel
theorem dX12_stops_49 : decode cX12_stops 49 = .ok (.aload_n 0, 1) := by decide +kernel
theorem dX12_stops_50 : decode cX12_stops 50 = .ok (.getfield 149, 3) := by decide +kernel
theorem dX12_stops_53 : decode cX12_stops 53 = .ok (.iload_n 1, 1) := by decide +kernel
theorem dX12_stops_54 : decode cX12_stops 54 = .ok (.iaload, 1) := by decide +kernel
theorem dX12_stops_55 : decode cX12_stops 55 = .ok (.if_icmp .lt 27, 3) := by decide +kernel
theorem dX12_stops_58 : decode cX12_stops 58 = .ok (.iload 4, 2) := by decide +kernel
theorem dX12_stops_60 : decode cX12_stops 60 = .ok (.iconst (-1), 1) := by decide +kernel
theorem dX12_stops_61 : decode cX12_stops 61 = .ok (.if_icmp .eq 13, 3) := by decide +kernel
theorem dX12_stops_64 : decode cX12_stops 64 = .ok (.iload 7, 2) := by decide +kernel
theorem dX12_stops_66 : decode cX12_stops 66 = .ok (.iload 5, 2) := by decide +kernel
theorem dX12_stops_68 : decode cX12_stops 68 = .ok (.if_icmp .gt 6, 3) := by decide +kernel
theorem dX12_stops_71 : decode cX12_stops 71 = .ok (.goto 11, 3) := by decide +kernel
theorem dX12_stops_74 : decode cX12_stops 74 = .ok (.iload 6, 2) := by decide +kernel
theorem dX12_stops_76 : decode cX12_stops 76 = .ok (.istore 4, 2) := by decide +kernel
theorem dX12_stops_78 : decode cX12_stops 78 = .ok (.iload 7, 2) := by decide +kernel
theorem dX12_stops_80 : decode cX12_stops 80 = .ok (.istore 5, 2) := by decide +kernel
theorem dX12_stops_82 : decode cX12_stops 82 = .ok (.iinc 6 1, 3) := by decide +kernel
theorem dX12_stops_85 : decode cX12_stops 85 = .ok (.goto (-69), 3) := by decide +kernel
theorem dX12_stops_88 : decode cX12_stops 88 = .ok (.iload 4, 2) := by decide +kernel
theorem dX12_stops_90 : decode cX12_stops 90 = .ok (.iconst (-1), 1) := by decide +kernel
theorem dX12_stops_91 : decode cX12_stops 91 = .ok (.if_icmp .ne 5, 3) := by decide +kernel
theorem dX12_stops_94 : decode cX12_stops 94 = .ok (.iconst 0, 1) := by decide +kernel
theorem dX12_stops_95 : decode cX12_stops 95 = .ok (.ireturn, 1) := by decide +kernel
theorem dX12_stops_96 : decode cX12_stops 96 = .ok (.aload_n 0, 1) := by decide +kernel
theorem dX12_stops_97 : decode cX12_stops 97 = .ok (.getfield 170, 3) := by decide +kernel
theorem dX12_stops_100 : decode cX12_stops 100 = .ok (.iload 4, 2) := by decide +kernel
theorem dX12_stops_102 : decode cX12_stops 102 = .ok (.iconst 1, 1) := by decide +kernel
theorem dX12_stops_103 : decode cX12_stops 103 = .ok (.bastore, 1) := by decide +kernel
theorem dX12_stops_104 : decode cX12_stops 104 = .ok (.aload_n 0, 1) := by decide +kernel
theorem dX12_stops_105 : decode cX12_stops 105 = .ok (.getfield 152, 3) := by decide +kernel
theorem dX12_stops_108 : decode cX12_stops 108 = .ok (.iload_n 3, 1) := by decide +kernel
theorem dX12_stops_109 : decode cX12_stops 109 = .ok (.iload 4, 2) := by decide +kernel
theorem dX12_stops_111 : decode cX12_stops 111 = .ok (.iastore, 1) := by decide +kernel
theorem dX12_stops_112 : decode cX12_stops 112 = .ok (.aload_n 0, 1) := by decide +kernel
theorem dX12_stops_113 : decode cX12_stops 113 = .ok (.getfield 155, 3) := by decide +kernel
theorem dX12_stops_116 : decode cX12_stops 116 = .ok (.iload_n 3, 1) := by decide +kernel
theorem dX12_stops_117 : decode cX12_stops 117 = .ok (.aload_n 0, 1) := by decide +kernel
theorem dX12_stops_118 : decode cX12_stops 118 = .ok (.getfield 149, 3) := by decide +kernel
theorem dX12_stops_121 : decode cX12_stops 121 = .ok (.iload_n 1, 1) := by decide +kernel
theorem dX12_stops_122 : decode cX12_stops 122 = .ok (.iaload, 1) := by decide +kernel
theorem dX12_stops_123 : decode cX12_stops 123 = .ok (.iastore, 1) := by decide +kernel
theorem dX12_stops_124 : decode cX12_stops 124 = .ok (.aload_n 0, 1) := by decide +kernel
theorem dX12_stops_125 : decode cX12_stops 125 = .ok (.getfield 158, 3) := by decide +kernel
theorem dX12_stops_128 : decode cX12_stops 128 = .ok (.iload_n 3, 1) := by decide +kernel
theorem dX12_stops_129 : decode cX12_stops 129 = .ok (.iload_n 2, 1) := by decide +kernel
theorem dX12_stops_130 : decode cX12_stops 130 = .ok (.iastore, 1) := by decide +kernel
theorem dX12_stops_131 : decode cX12_stops 131 = .ok (.aload_n 0, 1) := by decide +kernel
theorem dX12_stops_132 : decode cX12_stops 132 = .ok (.getfield 161, 3) := by decide +kernel
theorem dX12_stops_135 : decode cX12_stops 135 = .ok (.iload_n 3, 1) := by decide +kernel
theorem dX12_stops_136 : decode cX12_stops 136 = .ok (.iload_n 1, 1) := by decide +kernel
theorem dX12_stops_137 : decode cX12_stops 137 = .ok (.iastore, 1) := by decide +kernel
theorem dX12_stops_138 : decode cX12_stops 138 = .ok (.aload_n 0, 1) := by decide +kernel
theorem dX12_stops_139 : decode cX12_stops 139 = .ok (.getfield 140, 3) := by decide +kernel
theorem dX12_stops_142 : decode cX12_stops 142 = .ok (.bipush 6, 2) := by decide +kernel
theorem dX12_stops_144 : decode cX12_stops 144 = .ok (.iload 4, 2) := by decide +kernel
theorem dX12_stops_146 : decode cX12_stops 146 = .ok (.imul, 1) := by decide +kernel
theorem dX12_stops_147 : decode cX12_stops 147 = .ok (.aload_n 0, 1) := by decide +kernel
theorem dX12_stops_148 : decode cX12_stops 148 = .ok (.getfield 92, 3) := by decide +kernel
theorem dX12_stops_151 : decode cX12_stops 151 = .ok (.iload_n 3, 1) := by decide +kernel
theorem dX12_stops_152 : decode cX12_stops 152 = .ok (.iaload, 1) := by decide +kernel
theorem dX12_stops_153 : decode cX12_stops 153 = .ok (.iadd, 1) := by decide +kernel
theorem dX12_stops_154 : decode cX12_stops 154 = .ok (.dup2, 1) := by decide +kernel
theorem dX12_stops_155 : decode cX12_stops 155 = .ok (.iaload, 1) := by decide +kernel
theorem dX12_stops_156 : decode cX12_stops 156 = .ok (.aload_n 0, 1) := by decide +kernel
theorem dX12_stops_157 : decode cX12_stops 157 = .ok (.getfield 98, 3) := by decide +kernel
theorem dX12_stops_160 : decode cX12_stops 160 = .ok (.iload_n 3, 1) := by decide +kernel
theorem dX12_stops_161 : decode cX12_stops 161 = .ok (.iaload, 1) := by decide +kernel
theorem dX12_stops_162 : decode cX12_stops 162 = .ok (.iadd, 1) := by decide +kernel
theorem dX12_stops_163 : decode cX12_stops 163 = .ok (.iastore, 1) := by decide +kernel
theorem dX12_stops_164 : decode cX12_stops 164 = .ok (.aload_n 0, 1) := by decide +kernel
theorem dX12_stops_165 : decode cX12_stops 165 = .ok (.getfield 143, 3) := by decide +kernel
theorem dX12_stops_168 : decode cX12_stops 168 = .ok (.iload 4, 2) := by decide +kernel
theorem dX12_stops_170 : decode cX12_stops 170 = .ok (.dup2, 1) := by decide +kernel
theorem dX12_stops_171 : decode cX12_stops 171 = .ok (.iaload, 1) := by decide +kernel
theorem dX12_stops_172 : decode cX12_stops 172 = .ok (.aload_n 0, 1) := by decide +kernel
theorem dX12_stops_173 : decode cX12_stops 173 = .ok (.getfield 149, 3) := by decide +kernel
theorem dX12_stops_176 : decode cX12_stops 176 = .ok (.iload_n 1, 1) := by decide +kernel
theorem dX12_stops_177 : decode cX12_stops 177 = .ok (.iaload, 1) := by decide +kernel
theorem dX12_stops_178 : decode cX12_stops 178 = .ok (.aload_n 0, 1) := by decide +kernel
theorem dX12_stops_179 : decode cX12_stops 179 = .ok (.getfield 98, 3) := by decide +kernel
theorem dX12_stops_182 : decode cX12_stops 182 = .ok (.iload_n 3, 1) := by decide +kernel
theorem dX12_stops_183 : decode cX12_stops 183 = .ok (.iaload, 1) := by decide +kernel
theorem dX12_stops_184 : decode cX12_stops 184 = .ok (.imul, 1) := by decide +kernel
theorem dX12_stops_185 : decode cX12_stops 185 = .ok (.iadd, 1) := by decide +kernel
theorem dX12_stops_186 : decode cX12_stops 186 = .ok (.iastore, 1) := by decide +kernel
theorem dX12_stops_187 : decode cX12_stops 187 = .ok (.aload_n 0, 1) := by decide +kernel
theorem dX12_stops_188 : decode cX12_stops 188 = .ok (.getfield 146, 3) := by decide +kernel
theorem dX12_stops_191 : decode cX12_stops 191 = .ok (.iload_n 1, 1) := by decide +kernel
theorem dX12_stops_192 : decode cX12_stops 192 = .ok (.iconst (-1), 1) := by decide +kernel
theorem dX12_stops_193 : decode cX12_stops 193 = .ok (.iastore, 1) := by decide +kernel
theorem dX12_stops_194 : decode cX12_stops 194 = .ok (.iconst 1, 1) := by decide +kernel
theorem dX12_stops_195 : decode cX12_stops 195 = .ok (.ireturn, 1) := by decide +kernel
theorem dX12_sale_0 : decode cX12_sale 0 = .ok (.aload_n 0, 1) := by decide +kernel
theorem dX12_sale_1 : decode cX12_sale 1 = .ok (.getfield 310, 3) := by decide +kernel
theorem dX12_sale_4 : decode cX12_sale 4 = .ok (.ifCond .eq 6, 3) := by decide +kernel
theorem dX12_sale_7 : decode cX12_sale 7 = .ok (.bipush (-2), 2) := by decide +kernel
theorem dX12_sale_9 : decode cX12_sale 9 = .ok (.ireturn, 1) := by decide +kernel
theorem dX12_sale_10 : decode cX12_sale 10 = .ok (.aload_n 0, 1) := by decide +kernel
theorem dX12_sale_11 : decode cX12_sale 11 = .ok (.iconst (-1), 1) := by decide +kernel
theorem dX12_sale_12 : decode cX12_sale 12 = .ok (.invokevirtual 360, 3) := by decide +kernel
theorem dX12_sale_15 : decode cX12_sale 15 = .ok (.istore_n 1, 1) := by decide +kernel
theorem dX12_sale_16 : decode cX12_sale 16 = .ok (.aload_n 0, 1) := by decide +kernel
theorem dX12_sale_17 : decode cX12_sale 17 = .ok (.iconst 1, 1) := by decide +kernel
theorem dX12_sale_18 : decode cX12_sale 18 = .ok (.putfield 310, 3) := by decide +kernel
theorem dX12_sale_21 : decode cX12_sale 21 = .ok (.iconst 0, 1) := by decide +kernel
theorem dX12_sale_22 : decode cX12_sale 22 = .ok (.istore_n 2, 1) := by decide +kernel
theorem dX12_sale_23 : decode cX12_sale 23 = .ok (.iload_n 2, 1) := by decide +kernel
theorem dX12_sale_24 : decode cX12_sale 24 = .ok (.aload_n 0, 1) := by decide +kernel
theorem dX12_sale_25 : decode cX12_sale 25 = .ok (.getfield 307, 3) := by decide +kernel
theorem dX12_sale_28 : decode cX12_sale 28 = .ok (.if_icmp .ge 117, 3) := by decide +kernel
theorem dX12_sale_31 : decode cX12_sale 31 = .ok (.aload_n 0, 1) := by decide +kernel
theorem dX12_sale_32 : decode cX12_sale 32 = .ok (.getfield 173, 3) := by decide +kernel
theorem dX12_sale_35 : decode cX12_sale 35 = .ok (.iload_n 2, 1) := by decide +kernel
theorem dX12_sale_36 : decode cX12_sale 36 = .ok (.aload_n 0, 1) := by decide +kernel
theorem dX12_sale_37 : decode cX12_sale 37 = .ok (.getfield 152, 3) := by decide +kernel
theorem dX12_sale_40 : decode cX12_sale 40 = .ok (.iload_n 2, 1) := by decide +kernel
theorem dX12_sale_41 : decode cX12_sale 41 = .ok (.iaload, 1) := by decide +kernel
theorem dX12_sale_42 : decode cX12_sale 42 = .ok (.iastore, 1) := by decide +kernel
theorem dX12_sale_43 : decode cX12_sale 43 = .ok (.aload_n 0, 1) := by decide +kernel
theorem dX12_sale_44 : decode cX12_sale 44 = .ok (.getfield 176, 3) := by decide +kernel
theorem dX12_sale_47 : decode cX12_sale 47 = .ok (.iload_n 2, 1) := by decide +kernel
theorem dX12_sale_48 : decode cX12_sale 48 = .ok (.aload_n 0, 1) := by decide +kernel
theorem dX12_sale_49 : decode cX12_sale 49 = .ok (.getfield 155, 3) := by decide +kernel
theorem dX12_sale_52 : decode cX12_sale 52 = .ok (.iload_n 2, 1) := by decide +kernel
theorem dX12_sale_53 : decode cX12_sale 53 = .ok (.iaload, 1) := by decide +kernel
theorem dX12_sale_54 : decode cX12_sale 54 = .ok (.iastore, 1) := by decide +kernel
theorem dX12_sale_55 : decode cX12_sale 55 = .ok (.aload_n 0, 1) := by decide +kernel
theorem dX12_sale_56 : decode cX12_sale 56 = .ok (.getfield 179, 3) := by decide +kernel
theorem dX12_sale_59 : decode cX12_sale 59 = .ok (.iload_n 2, 1) := by decide +kernel
theorem dX12_sale_60 : decode cX12_sale 60 = .ok (.aload_n 0, 1) := by decide +kernel
theorem dX12_sale_61 : decode cX12_sale 61 = .ok (.getfield 158, 3) := by decide +kernel
theorem dX12_sale_64 : decode cX12_sale 64 = .ok (.iload_n 2, 1) := by decide +kernel
theorem dX12_sale_65 : decode cX12_sale 65 = .ok (.iaload, 1) := by decide +kernel
theorem dX12_sale_66 : decode cX12_sale 66 = .ok (.iastore, 1) := by decide +kernel
theorem dX12_sale_67 : decode cX12_sale 67 = .ok (.aload_n 0, 1) := by decide +kernel
theorem dX12_sale_68 : decode cX12_sale 68 = .ok (.getfield 182, 3) := by decide +kernel
theorem dX12_sale_71 : decode cX12_sale 71 = .ok (.iload_n 2, 1) := by decide +kernel
theorem dX12_sale_72 : decode cX12_sale 72 = .ok (.aload_n 0, 1) := by decide +kernel
theorem dX12_sale_73 : decode cX12_sale 73 = .ok (.getfield 161, 3) := by decide +kernel
theorem dX12_sale_76 : decode cX12_sale 76 = .ok (.iload_n 2, 1) := by decide +kernel
theorem dX12_sale_77 : decode cX12_sale 77 = .ok (.iaload, 1) := by decide +kernel
theorem dX12_sale_78 : decode cX12_sale 78 = .ok (.iastore, 1) := by decide +kernel
theorem dX12_sale_79 : decode cX12_sale 79 = .ok (.aload_n 0, 1) := by decide +kernel
theorem dX12_sale_80 : decode cX12_sale 80 = .ok (.getfield 185, 3) := by decide +kernel
theorem dX12_sale_83 : decode cX12_sale 83 = .ok (.iload_n 2, 1) := by decide +kernel
theorem dX12_sale_84 : decode cX12_sale 84 = .ok (.aload_n 0, 1) := by decide +kernel
theorem dX12_sale_85 : decode cX12_sale 85 = .ok (.getfield 164, 3) := by decide +kernel
theorem dX12_sale_88 : decode cX12_sale 88 = .ok (.iload_n 2, 1) := by decide +kernel
theorem dX12_sale_89 : decode cX12_sale 89 = .ok (.iaload, 1) := by decide +kernel
theorem dX12_sale_90 : decode cX12_sale 90 = .ok (.iastore, 1) := by decide +kernel
theorem dX12_sale_91 : decode cX12_sale 91 = .ok (.aload_n 0, 1) := by decide +kernel
theorem dX12_sale_92 : decode cX12_sale 92 = .ok (.getfield 188, 3) := by decide +kernel
theorem dX12_sale_95 : decode cX12_sale 95 = .ok (.iload_n 2, 1) := by decide +kernel
theorem dX12_sale_96 : decode cX12_sale 96 = .ok (.aload_n 0, 1) := by decide +kernel
theorem dX12_sale_97 : decode cX12_sale 97 = .ok (.getfield 167, 3) := by decide +kernel
theorem dX12_sale_100 : decode cX12_sale 100 = .ok (.iload_n 2, 1) := by decide +kernel
theorem dX12_sale_101 : decode cX12_sale 101 = .ok (.iaload, 1) := by decide +kernel
theorem dX12_sale_102 : decode cX12_sale 102 = .ok (.iastore, 1) := by decide +kernel
theorem dX12_sale_103 : decode cX12_sale 103 = .ok (.aload_n 0, 1) := by decide +kernel
theorem dX12_sale_104 : decode cX12_sale 104 = .ok (.getfield 191, 3) := by decide +kernel
theorem dX12_sale_107 : decode cX12_sale 107 = .ok (.iload_n 2, 1) := by decide +kernel
theorem dX12_sale_108 : decode cX12_sale 108 = .ok (.aload_n 0, 1) := by decide +kernel
theorem dX12_sale_109 : decode cX12_sale 109 = .ok (.iload_n 2, 1) := by decide +kernel
theorem dX12_sale_110 : decode cX12_sale 110 = .ok (.invokevirtual 363, 3) := by decide +kernel
theorem dX12_sale_113 : decode cX12_sale 113 = .ok (.iastore, 1) := by decide +kernel
theorem dX12_sale_114 : decode cX12_sale 114 = .ok (.aload_n 0, 1) := by decide +kernel
theorem dX12_sale_115 : decode cX12_sale 115 = .ok (.getfield 152, 3) := by decide +kernel
theorem dX12_sale_118 : decode cX12_sale 118 = .ok (.iload_n 2, 1) := by decide +kernel
theorem dX12_sale_119 : decode cX12_sale 119 = .ok (.iaload, 1) := by decide +kernel
theorem dX12_sale_120 : decode cX12_sale 120 = .ok (.iconst (-1), 1) := by decide +kernel
theorem dX12_sale_121 : decode cX12_sale 121 = .ok (.if_icmp .eq 18, 3) := by decide +kernel
theorem dX12_sale_124 : decode cX12_sale 124 = .ok (.aload_n 0, 1) := by decide +kernel
theorem dX12_sale_125 : decode cX12_sale 125 = .ok (.getfield 131, 3) := by decide +kernel
theorem dX12_sale_128 : decode cX12_sale 128 = .ok (.aload_n 0, 1) := by decide +kernel
theorem dX12_sale_129 : decode cX12_sale 129 = .ok (.getfield 152, 3) := by decide +kernel
theorem dX12_sale_132 : decode cX12_sale 132 = .ok (.iload_n 2, 1) := by decide +kernel
theorem dX12_sale_133 : decode cX12_sale 133 = .ok (.iaload, 1) := by decide +kernel
theorem dX12_sale_134 : decode cX12_sale 134 = .ok (.dup2, 1) := by decide +kernel
theorem dX12_sale_135 : decode cX12_sale 135 = .ok (.iaload, 1) := by decide +kernel
theorem dX12_sale_136 : decode cX12_sale 136 = .ok (.iconst 1, 1) := by decide +kernel
theorem dX12_sale_137 : decode cX12_sale 137 = .ok (.iadd, 1) := by decide +kernel
theorem dX12_sale_138 : decode cX12_sale 138 = .ok (.iastore, 1) := by decide +kernel
theorem dX12_sale_139 : decode cX12_sale 139 = .ok (.iinc 2 1, 3) := by decide +kernel
theorem dX12_sale_142 : decode cX12_sale 142 = .ok (.goto (-119), 3) := by decide +kernel
theorem dX12_sale_145 : decode cX12_sale 145 = .ok (.iconst 0, 1) := by decide +kernel
theorem dX12_sale_146 : decode cX12_sale 146 = .ok (.istore_n 2, 1) := by decide +kernel
theorem dX12_sale_147 : decode cX12_sale 147 = .ok (.iload_n 2, 1) := by decide +kernel
theorem dX12_sale_148 : decode cX12_sale 148 = .ok (.bipush 36, 2) := by decide +kernel
theorem dX12_sale_150 : decode cX12_sale 150 = .ok (.if_icmp .ge 21, 3) := by decide +kernel
theorem dX12_sale_153 : decode cX12_sale 153 = .ok (.aload_n 0, 1) := by decide +kernel
theorem dX12_sale_154 : decode cX12_sale 154 = .ok (.getfield 125, 3) := by decide +kernel
theorem dX12_sale_157 : decode cX12_sale 157 = .ok (.iload_n 2, 1) := by decide +kernel
theorem dX12_sale_158 : decode cX12_sale 158 = .ok (.aload_n 0, 1) := by decide +kernel
theorem dX12_sale_159 : decode cX12_sale 159 = .ok (.getfield 140, 3) := by decide +kernel
theorem dX12_sale_162 : decode cX12_sale 162 = .ok (.iload_n 2, 1) := by decide +kernel
theorem dX12_sale_163 : decode cX12_sale 163 = .ok (.iaload, 1) := by decide +kernel
theorem dX12_sale_164 : decode cX12_sale 164 = .ok (.iastore, 1) := by decide +kernel
theorem dX12_sale_165 : decode cX12_sale 165 = .ok (.iinc 2 1, 3) := by decide +kernel
theorem dX12_sale_168 : decode cX12_sale 168 = .ok (.goto (-21), 3) := by decide +kernel
theorem dX12_sale_171 : decode cX12_sale 171 = .ok (.iconst 0, 1) := by decide +kernel
theorem dX12_sale_172 : decode cX12_sale 172 = .ok (.istore_n 2, 1) := by decide +kernel
theorem dX12_sale_173 : decode cX12_sale 173 = .ok (.iload_n 2, 1) := by decide +kernel
theorem dX12_sale_174 : decode cX12_sale 174 = .ok (.bipush 6, 2) := by decide +kernel
theorem dX12_sale_176 : decode cX12_sale 176 = .ok (.if_icmp .ge 21, 3) := by decide +kernel
theorem dX12_sale_179 : decode cX12_sale 179 = .ok (.aload_n 0, 1) := by decide +kernel
theorem dX12_sale_180 : decode cX12_sale 180 = .ok (.getfield 128, 3) := by decide +kernel
theorem dX12_sale_183 : decode cX12_sale 183 = .ok (.iload_n 2, 1) := by decide +kernel
theorem dX12_sale_184 : decode cX12_sale 184 = .ok (.aload_n 0, 1) := by decide +kernel
theorem dX12_sale_185 : decode cX12_sale 185 = .ok (.getfield 143, 3) := by decide +kernel
theorem dX12_sale_188 : decode cX12_sale 188 = .ok (.iload_n 2, 1) := by decide +kernel
theorem dX12_sale_189 : decode cX12_sale 189 = .ok (.iaload, 1) := by decide +kernel
theorem dX12_sale_190 : decode cX12_sale 190 = .ok (.iastore, 1) := by decide +kernel
theorem dX12_sale_191 : decode cX12_sale 191 = .ok (.iinc 2 1, 3) := by decide +kernel
theorem dX12_sale_194 : decode cX12_sale 194 = .ok (.goto (-21), 3) := by decide +kernel
theorem dX12_sale_197 : decode cX12_sale 197 = .ok (.iload_n 1, 1) := by decide +kernel
theorem dX12_sale_198 : decode cX12_sale 198 = .ok (.ireturn, 1) := by decide +kernel
theorem dX12_brings_0 : decode cX12_brings 0 = .ok (.aload_n 0, 1) := by decide +kernel
theorem dX12_brings_1 : decode cX12_brings 1 = .ok (.getfield 155, 3) := by decide +kernel
theorem dX12_brings_4 : decode cX12_brings 4 = .ok (.iload_n 1, 1) := by decide +kernel
theorem dX12_brings_5 : decode cX12_brings 5 = .ok (.iaload, 1) := by decide +kernel
theorem dX12_brings_6 : decode cX12_brings 6 = .ok (.aload_n 0, 1) := by decide +kernel
theorem dX12_brings_7 : decode cX12_brings 7 = .ok (.getfield 98, 3) := by decide +kernel
theorem dX12_brings_10 : decode cX12_brings 10 = .ok (.iload_n 1, 1) := by decide +kernel
theorem dX12_brings_11 : decode cX12_brings 11 = .ok (.iaload, 1) := by decide +kernel
theorem dX12_brings_12 : decode cX12_brings 12 = .ok (.imul, 1) := by decide +kernel
theorem dX12_brings_13 : decode cX12_brings 13 = .ok (.istore_n 2, 1) := by decide +kernel
theorem dX12_brings_14 : decode cX12_brings 14 = .ok (.aload_n 0, 1) := by decide +kernel
theorem dX12_brings_15 : decode cX12_brings 15 = .ok (.getfield 152, 3) := by decide +kernel
theorem dX12_brings_18 : decode cX12_brings 18 = .ok (.iload_n 1, 1) := by decide +kernel
theorem dX12_brings_19 : decode cX12_brings 19 = .ok (.iaload, 1) := by decide +kernel
theorem dX12_brings_20 : decode cX12_brings 20 = .ok (.iconst (-1), 1) := by decide +kernel
theorem dX12_brings_21 : decode cX12_brings 21 = .ok (.if_icmp .ne 9, 3) := by decide +kernel
theorem dX12_brings_24 : decode cX12_brings 24 = .ok (.iload_n 2, 1) := by decide +kernel
theorem dX12_brings_25 : decode cX12_brings 25 = .ok (.iconst 2, 1) := by decide +kernel
theorem dX12_brings_26 : decode cX12_brings 26 = .ok (.idiv, 1) := by decide +kernel
theorem dX12_brings_27 : decode cX12_brings 27 = .ok (.goto 11, 3) := by decide +kernel
theorem dX12_brings_30 : decode cX12_brings 30 = .ok (.iload_n 2, 1) := by decide +kernel
theorem dX12_brings_31 : decode cX12_brings 31 = .ok (.iload_n 2, 1) := by decide +kernel
theorem dX12_brings_32 : decode cX12_brings 32 = .ok (.iconst 3, 1) := by decide +kernel
theorem dX12_brings_33 : decode cX12_brings 33 = .ok (.imul, 1) := by decide +kernel
theorem dX12_brings_34 : decode cX12_brings 34 = .ok (.bipush 100, 2) := by decide +kernel
theorem dX12_brings_36 : decode cX12_brings 36 = .ok (.idiv, 1) := by decide +kernel
theorem dX12_brings_37 : decode cX12_brings 37 = .ok (.isub, 1) := by decide +kernel
theorem dX12_brings_38 : decode cX12_brings 38 = .ok (.ireturn, 1) := by decide +kernel
theorem dX12_day_0 : decode cX12_day 0 = .ok (.aload_n 0, 1) := by decide +kernel
theorem dX12_day_1 : decode cX12_day 1 = .ok (.getfield 310, 3) := by decide +kernel
theorem dX12_day_4 : decode cX12_day 4 = .ok (.ifCond .ne 5, 3) := by decide +kernel
theorem dX12_day_7 : decode cX12_day 7 = .ok (.iconst (-1), 1) := by decide +kernel
theorem dX12_day_8 : decode cX12_day 8 = .ok (.ireturn, 1) := by decide +kernel
theorem dX12_day_9 : decode cX12_day 9 = .ok (.iconst 0, 1) := by decide +kernel
theorem dX12_day_10 : decode cX12_day 10 = .ok (.istore_n 1, 1) := by decide +kernel
theorem dX12_day_11 : decode cX12_day 11 = .ok (.iload_n 1, 1) := by decide +kernel
theorem dX12_day_12 : decode cX12_day 12 = .ok (.bipush 6, 2) := by decide +kernel
theorem dX12_day_14 : decode cX12_day 14 = .ok (.if_icmp .ge 116, 3) := by decide +kernel
theorem dX12_day_17 : decode cX12_day 17 = .ok (.iconst (-1), 1) := by decide +kernel
theorem dX12_day_18 : decode cX12_day 18 = .ok (.istore_n 2, 1) := by decide +kernel
theorem dX12_day_19 : decode cX12_day 19 = .ok (.iconst 0, 1) := by decide +kernel
theorem dX12_day_20 : decode cX12_day 20 = .ok (.istore_n 3, 1) := by decide +kernel
theorem dX12_day_21 : decode cX12_day 21 = .ok (.iload_n 3, 1) := by decide +kernel
theorem dX12_day_22 : decode cX12_day 22 = .ok (.aload_n 0, 1) := by decide +kernel
theorem dX12_day_23 : decode cX12_day 23 = .ok (.getfield 307, 3) := by decide +kernel
theorem dX12_day_26 : decode cX12_day 26 = .ok (.if_icmp .ge 81, 3) := by decide +kernel
theorem dX12_day_29 : decode cX12_day 29 = .ok (.aload_n 0, 1) := by decide +kernel
theorem dX12_day_30 : decode cX12_day 30 = .ok (.getfield 92, 3) := by decide +kernel
theorem dX12_day_33 : decode cX12_day 33 = .ok (.iload_n 3, 1) := by decide +kernel
theorem dX12_day_34 : decode cX12_day 34 = .ok (.iaload, 1) := by decide +kernel
theorem dX12_day_35 : decode cX12_day 35 = .ok (.iload_n 1, 1) := by decide +kernel
theorem dX12_day_36 : decode cX12_day 36 = .ok (.if_icmp .ne 65, 3) := by decide +kernel
theorem dX12_day_39 : decode cX12_day 39 = .ok (.aload_n 0, 1) := by decide +kernel
theorem dX12_day_40 : decode cX12_day 40 = .ok (.getfield 173, 3) := by decide +kernel
theorem dX12_day_43 : decode cX12_day 43 = .ok (.iload_n 3, 1) := by decide +kernel
theorem dX12_day_44 : decode cX12_day 44 = .ok (.iaload, 1) := by decide +kernel
theorem dX12_day_45 : decode cX12_day 45 = .ok (.iconst (-1), 1) := by decide +kernel
theorem dX12_day_46 : decode cX12_day 46 = .ok (.if_icmp .eq 55, 3) := by decide +kernel
theorem dX12_day_49 : decode cX12_day 49 = .ok (.iload_n 2, 1) := by decide +kernel
theorem dX12_day_50 : decode cX12_day 50 = .ok (.iconst (-1), 1) := by decide +kernel
theorem dX12_day_51 : decode cX12_day 51 = .ok (.if_icmp .eq 48, 3) := by decide +kernel
theorem dX12_day_54 : decode cX12_day 54 = .ok (.aload_n 0, 1) := by decide +kernel
theorem dX12_day_55 : decode cX12_day 55 = .ok (.getfield 179, 3) := by decide +kernel
theorem dX12_day_58 : decode cX12_day 58 = .ok (.iload_n 3, 1) := by decide +kernel
theorem dX12_day_59 : decode cX12_day 59 = .ok (.iaload, 1) := by decide +kernel
theorem dX12_day_60 : decode cX12_day 60 = .ok (.aload_n 0, 1) := by decide +kernel
theorem dX12_day_61 : decode cX12_day 61 = .ok (.getfield 179, 3) := by decide +kernel
theorem dX12_day_64 : decode cX12_day 64 = .ok (.iload_n 2, 1) := by decide +kernel
theorem dX12_day_65 : decode cX12_day 65 = .ok (.iaload, 1) := by decide +kernel
theorem dX12_day_66 : decode cX12_day 66 = .ok (.if_icmp .gt 33, 3) := by decide +kernel
theorem dX12_day_69 : decode cX12_day 69 = .ok (.aload_n 0, 1) := by decide +kernel
theorem dX12_day_70 : decode cX12_day 70 = .ok (.getfield 179, 3) := by decide +kernel
theorem dX12_day_73 : decode cX12_day 73 = .ok (.iload_n 3, 1) := by decide +kernel
theorem dX12_day_74 : decode cX12_day 74 = .ok (.iaload, 1) := by decide +kernel
theorem dX12_day_75 : decode cX12_day 75 = .ok (.aload_n 0, 1) := by decide +kernel
theorem dX12_day_76 : decode cX12_day 76 = .ok (.getfield 179, 3) := by decide +kernel
theorem dX12_day_79 : decode cX12_day 79 = .ok (.iload_n 2, 1) := by decide +kernel
theorem dX12_day_80 : decode cX12_day 80 = .ok (.iaload, 1) := by decide +kernel
theorem dX12_day_81 : decode cX12_day 81 = .ok (.if_icmp .ne 20, 3) := by decide +kernel
theorem dX12_day_84 : decode cX12_day 84 = .ok (.aload_n 0, 1) := by decide +kernel
theorem dX12_day_85 : decode cX12_day 85 = .ok (.getfield 182, 3) := by decide +kernel
theorem dX12_day_88 : decode cX12_day 88 = .ok (.iload_n 3, 1) := by decide +kernel
theorem dX12_day_89 : decode cX12_day 89 = .ok (.iaload, 1) := by decide +kernel
theorem dX12_day_90 : decode cX12_day 90 = .ok (.aload_n 0, 1) := by decide +kernel
theorem dX12_day_91 : decode cX12_day 91 = .ok (.getfield 182, 3) := by decide +kernel
theorem dX12_day_94 : decode cX12_day 94 = .ok (.iload_n 2, 1) := by decide +kernel
theorem dX12_day_95 : decode cX12_day 95 = .ok (.iaload, 1) := by decide +kernel
theorem dX12_day_96 : decode cX12_day 96 = .ok (.if_icmp .ge 5, 3) := by decide +kernel
theorem dX12_day_99 : decode cX12_day 99 = .ok (.iload_n 3, 1) := by decide +kernel
theorem dX12_day_100 : decode cX12_day 100 = .ok (.istore_n 2, 1) := by decide +kernel
theorem dX12_day_101 : decode cX12_day 101 = .ok (.iinc 3 1, 3) := by decide +kernel
theorem dX12_day_104 : decode cX12_day 104 = .ok (.goto (-83), 3) := by decide +kernel
theorem dX12_day_107 : decode cX12_day 107 = .ok (.iload_n 2, 1) := by decide +kernel
theorem dX12_day_108 : decode cX12_day 108 = .ok (.iconst (-1), 1) := by decide +kernel
theorem dX12_day_109 : decode cX12_day 109 = .ok (.if_icmp .eq 15, 3) := by decide +kernel
theorem dX12_day_112 : decode cX12_day 112 = .ok (.aload_n 0, 1) := by decide +kernel
theorem dX12_day_113 : decode cX12_day 113 = .ok (.getfield 113, 3) := by decide +kernel
theorem dX12_day_116 : decode cX12_day 116 = .ok (.iload_n 1, 1) := by decide +kernel
theorem dX12_day_117 : decode cX12_day 117 = .ok (.aload_n 0, 1) := by decide +kernel
theorem dX12_day_118 : decode cX12_day 118 = .ok (.getfield 176, 3) := by decide +kernel
theorem dX12_day_121 : decode cX12_day 121 = .ok (.iload_n 2, 1) := by decide +kernel
theorem dX12_day_122 : decode cX12_day 122 = .ok (.iaload, 1) := by decide +kernel
theorem dX12_day_123 : decode cX12_day 123 = .ok (.iastore, 1) := by decide +kernel
theorem dX12_day_124 : decode cX12_day 124 = .ok (.iinc 1 1, 3) := by decide +kernel
theorem dX12_day_127 : decode cX12_day 127 = .ok (.goto (-116), 3) := by decide +kernel
theorem dX12_day_130 : decode cX12_day 130 = .ok (.aload_n 0, 1) := by decide +kernel
theorem dX12_day_131 : decode cX12_day 131 = .ok (.iconst 0, 1) := by decide +kernel
theorem dX12_day_132 : decode cX12_day 132 = .ok (.putfield 307, 3) := by decide +kernel
theorem dX12_day_135 : decode cX12_day 135 = .ok (.aload_n 0, 1) := by decide +kernel
theorem dX12_day_136 : decode cX12_day 136 = .ok (.iconst 0, 1) := by decide +kernel
theorem dX12_day_137 : decode cX12_day 137 = .ok (.putfield 310, 3) := by decide +kernel
theorem dX12_day_140 : decode cX12_day 140 = .ok (.iconst 0, 1) := by decide +kernel
theorem dX12_day_141 : decode cX12_day 141 = .ok (.istore_n 1, 1) := by decide +kernel
theorem dX12_day_142 : decode cX12_day 142 = .ok (.iload_n 1, 1) := by decide +kernel
theorem dX12_day_143 : decode cX12_day 143 = .ok (.bipush 36, 2) := by decide +kernel
theorem dX12_day_145 : decode cX12_day 145 = .ok (.if_icmp .ge 16, 3) := by decide +kernel
theorem dX12_day_148 : decode cX12_day 148 = .ok (.aload_n 0, 1) := by decide +kernel
theorem dX12_day_149 : decode cX12_day 149 = .ok (.getfield 125, 3) := by decide +kernel
theorem dX12_day_152 : decode cX12_day 152 = .ok (.iload_n 1, 1) := by decide +kernel
theorem dX12_day_153 : decode cX12_day 153 = .ok (.iconst 0, 1) := by decide +kernel
theorem dX12_day_154 : decode cX12_day 154 = .ok (.iastore, 1) := by decide +kernel
theorem dX12_day_155 : decode cX12_day 155 = .ok (.iinc 1 1, 3) := by decide +kernel
theorem dX12_day_158 : decode cX12_day 158 = .ok (.goto (-16), 3) := by decide +kernel
theorem dX12_day_161 : decode cX12_day 161 = .ok (.iconst 0, 1) := by decide +kernel
theorem dX12_day_162 : decode cX12_day 162 = .ok (.istore_n 1, 1) := by decide +kernel
theorem dX12_day_163 : decode cX12_day 163 = .ok (.iload_n 1, 1) := by decide +kernel
theorem dX12_day_164 : decode cX12_day 164 = .ok (.bipush 6, 2) := by decide +kernel
theorem dX12_day_166 : decode cX12_day 166 = .ok (.if_icmp .ge 23, 3) := by decide +kernel
theorem dX12_day_169 : decode cX12_day 169 = .ok (.aload_n 0, 1) := by decide +kernel
theorem dX12_day_170 : decode cX12_day 170 = .ok (.getfield 128, 3) := by decide +kernel
theorem dX12_day_173 : decode cX12_day 173 = .ok (.iload_n 1, 1) := by decide +kernel
theorem dX12_day_174 : decode cX12_day 174 = .ok (.iconst 0, 1) := by decide +kernel
theorem dX12_day_175 : decode cX12_day 175 = .ok (.iastore, 1) := by decide +kernel
theorem dX12_day_176 : decode cX12_day 176 = .ok (.aload_n 0, 1) := by decide +kernel
theorem dX12_day_177 : decode cX12_day 177 = .ok (.getfield 131, 3) := by decide +kernel
theorem dX12_day_180 : decode cX12_day 180 = .ok (.iload_n 1, 1) := by decide +kernel
theorem dX12_day_181 : decode cX12_day 181 = .ok (.iconst 0, 1) := by decide +kernel
theorem dX12_day_182 : decode cX12_day 182 = .ok (.iastore, 1) := by decide +kernel
theorem dX12_day_183 : decode cX12_day 183 = .ok (.iinc 1 1, 3) := by decide +kernel
theorem dX12_day_186 : decode cX12_day 186 = .ok (.goto (-23), 3) := by decide +kernel
theorem dX12_day_189 : decode cX12_day 189 = .ok (.aload_n 0, 1) := by decide +kernel
theorem dX12_day_190 : decode cX12_day 190 = .ok (.dup, 1) := by decide +kernel
theorem dX12_day_191 : decode cX12_day 191 = .ok (.getfield 366, 3) := by decide +kernel
theorem dX12_day_194 : decode cX12_day 194 = .ok (.iconst 1, 1) := by decide +kernel
theorem dX12_day_195 : decode cX12_day 195 = .ok (.iadd, 1) := by decide +kernel
theorem dX12_day_196 : decode cX12_day 196 = .ok (.putfield 366, 3) := by decide +kernel
theorem dX12_day_199 : decode cX12_day 199 = .ok (.aload_n 0, 1) := by decide +kernel
theorem dX12_day_200 : decode cX12_day 200 = .ok (.getfield 366, 3) := by decide +kernel
theorem dX12_day_203 : decode cX12_day 203 = .ok (.ireturn, 1) := by decide +kernel
theorem dX12_loads_0 : decode cX12_loads 0 = .ok (.iconst 0, 1) := by decide +kernel
theorem dX12_loads_1 : decode cX12_loads 1 = .ok (.istore_n 1, 1) := by decide +kernel
theorem dX12_loads_2 : decode cX12_loads 2 = .ok (.iload_n 1, 1) := by decide +kernel
theorem dX12_loads_3 : decode cX12_loads 3 = .ok (.aload_n 0, 1) := by decide +kernel
theorem dX12_loads_4 : decode cX12_loads 4 = .ok (.getfield 307, 3) := by decide +kernel
theorem dX12_loads_7 : decode cX12_loads 7 = .ok (.if_icmp .ge 16, 3) := by decide +kernel
theorem dX12_loads_10 : decode cX12_loads 10 = .ok (.aload_n 0, 1) := by decide +kernel
theorem dX12_loads_11 : decode cX12_loads 11 = .ok (.getfield 194, 3) := by decide +kernel
theorem dX12_loads_14 : decode cX12_loads 14 = .ok (.iload_n 1, 1) := by decide +kernel
theorem dX12_loads_15 : decode cX12_loads 15 = .ok (.iconst (-1), 1) := by decide +kernel
theorem dX12_loads_16 : decode cX12_loads 16 = .ok (.iastore, 1) := by decide +kernel
theorem dX12_loads_17 : decode cX12_loads 17 = .ok (.iinc 1 1, 3) := by decide +kernel
theorem dX12_loads_20 : decode cX12_loads 20 = .ok (.goto (-18), 3) := by decide +kernel
theorem dX12_loads_23 : decode cX12_loads 23 = .ok (.iconst 0, 1) := by decide +kernel
theorem dX12_loads_24 : decode cX12_loads 24 = .ok (.istore_n 1, 1) := by decide +kernel
theorem dX12_loads_25 : decode cX12_loads 25 = .ok (.iload_n 1, 1) := by decide +kernel
theorem dX12_loads_26 : decode cX12_loads 26 = .ok (.aload_n 0, 1) := by decide +kernel
theorem dX12_loads_27 : decode cX12_loads 27 = .ok (.getfield 321, 3) := by decide +kernel
theorem dX12_loads_30 : decode cX12_loads 30 = .ok (.if_icmp .ge 357, 3) := by decide +kernel
theorem dX12_loads_33 : decode cX12_loads 33 = .ok (.iconst 0, 1) := by decide +kernel
theorem dX12_loads_34 : decode cX12_loads 34 = .ok (.istore_n 2, 1) := by decide +kernel
theorem dX12_loads_35 : decode cX12_loads 35 = .ok (.iload_n 2, 1) := by decide +kernel
theorem dX12_loads_36 : decode cX12_loads 36 = .ok (.aload_n 0, 1) := by decide +kernel
theorem dX12_loads_37 : decode cX12_loads 37 = .ok (.getfield 307, 3) := by decide +kernel
theorem dX12_loads_40 : decode cX12_loads 40 = .ok (.if_icmp .ge 82, 3) := by decide +kernel
theorem dX12_loads_43 : decode cX12_loads 43 = .ok (.aload_n 0, 1) := by decide +kernel
theorem dX12_loads_44 : decode cX12_loads 44 = .ok (.getfield 200, 3) := by decide +kernel
theorem dX12_loads_47 : decode cX12_loads 47 = .ok (.iload_n 2, 1) := by decide +kernel
theorem dX12_loads_48 : decode cX12_loads 48 = .ok (.aload_n 0, 1) := by decide +kernel
theorem dX12_loads_49 : decode cX12_loads 49 = .ok (.getfield 194, 3) := by decide +kernel
theorem dX12_loads_52 : decode cX12_loads 52 = .ok (.iload_n 2, 1) := by decide +kernel
theorem dX12_loads_53 : decode cX12_loads 53 = .ok (.iaload, 1) := by decide +kernel
theorem dX12_loads_54 : decode cX12_loads 54 = .ok (.iconst (-1), 1) := by decide +kernel
theorem dX12_loads_55 : decode cX12_loads 55 = .ok (.if_icmp .ne 59, 3) := by decide +kernel
theorem dX12_loads_58 : decode cX12_loads 58 = .ok (.aload_n 0, 1) := by decide +kernel
theorem dX12_loads_59 : decode cX12_loads 59 = .ok (.getfield 173, 3) := by decide +kernel
theorem dX12_loads_62 : decode cX12_loads 62 = .ok (.iload_n 2, 1) := by decide +kernel
theorem dX12_loads_63 : decode cX12_loads 63 = .ok (.iaload, 1) := by decide +kernel
theorem dX12_loads_64 : decode cX12_loads 64 = .ok (.iconst (-1), 1) := by decide +kernel
theorem dX12_loads_65 : decode cX12_loads 65 = .ok (.if_icmp .eq 49, 3) := by decide +kernel
theorem dX12_loads_68 : decode cX12_loads 68 = .ok (.aload_n 0, 1) := by decide +kernel
theorem dX12_loads_69 : decode cX12_loads 69 = .ok (.getfield 104, 3) := by decide +kernel
theorem dX12_loads_72 : decode cX12_loads 72 = .ok (.aload_n 0, 1) := by decide +kernel
theorem dX12_loads_73 : decode cX12_loads 73 = .ok (.getfield 173, 3) := by decide +kernel
theorem dX12_loads_76 : decode cX12_loads 76 = .ok (.iload_n 2, 1) := by decide +kernel
theorem dX12_loads_77 : decode cX12_loads 77 = .ok (.iaload, 1) := by decide +kernel
theorem dX12_loads_78 : decode cX12_loads 78 = .ok (.iaload, 1) := by decide +kernel
theorem dX12_loads_79 : decode cX12_loads 79 = .ok (.aload_n 0, 1) := by decide +kernel
theorem dX12_loads_80 : decode cX12_loads 80 = .ok (.getfield 116, 3) := by decide +kernel
theorem dX12_loads_83 : decode cX12_loads 83 = .ok (.iload_n 1, 1) := by decide +kernel
theorem dX12_loads_84 : decode cX12_loads 84 = .ok (.iaload, 1) := by decide +kernel
theorem dX12_loads_85 : decode cX12_loads 85 = .ok (.if_icmp .ne 29, 3) := by decide +kernel
theorem dX12_loads_88 : decode cX12_loads 88 = .ok (.aload_n 0, 1) := by decide +kernel
theorem dX12_loads_89 : decode cX12_loads 89 = .ok (.getfield 179, 3) := by decide +kernel
theorem dX12_loads_92 : decode cX12_loads 92 = .ok (.iload_n 2, 1) := by decide +kernel
theorem dX12_loads_93 : decode cX12_loads 93 = .ok (.iaload, 1) := by decide +kernel
theorem dX12_loads_94 : decode cX12_loads 94 = .ok (.aload_n 0, 1) := by decide +kernel
theorem dX12_loads_95 : decode cX12_loads 95 = .ok (.getfield 98, 3) := by decide +kernel
theorem dX12_loads_98 : decode cX12_loads 98 = .ok (.iload_n 2, 1) := by decide +kernel
theorem dX12_loads_99 : decode cX12_loads 99 = .ok (.iaload, 1) := by decide +kernel
theorem dX12_loads_100 : decode cX12_loads 100 = .ok (.iadd, 1) := by decide +kernel
theorem dX12_loads_101 : decode cX12_loads 101 = .ok (.aload_n 0, 1) := by decide +kernel
theorem dX12_loads_102 : decode cX12_loads 102 = .ok (.getfield 122, 3) := by decide +kernel
theorem dX12_loads_105 : decode cX12_loads 105 = .ok (.iload_n 1, 1) := by decide +kernel
theorem dX12_loads_106 : decode cX12_loads 106 = .ok (.iaload, 1) := by decide +kernel
theorem dX12_loads_107 : decode cX12_loads 107 = .ok (.if_icmp .gt 7, 3) := by decide +kernel
theorem dX12_loads_110 : decode cX12_loads 110 = .ok (.iconst 1, 1) := by decide +kernel
theorem dX12_loads_111 : decode cX12_loads 111 = .ok (.goto 4, 3) := by decide +kernel
theorem dX12_loads_114 : decode cX12_loads 114 = .ok (.iconst 0, 1) := by decide +kernel
theorem dX12_loads_115 : decode cX12_loads 115 = .ok (.bastore, 1) := by decide +kernel
theorem dX12_loads_116 : decode cX12_loads 116 = .ok (.iinc 2 1, 3) := by decide +kernel
theorem dX12_loads_119 : decode cX12_loads 119 = .ok (.goto (-84), 3) := by decide +kernel
theorem dX12_loads_122 : decode cX12_loads 122 = .ok (.iconst 0, 1) := by decide +kernel
theorem dX12_loads_123 : decode cX12_loads 123 = .ok (.istore_n 2, 1) := by decide +kernel
theorem dX12_loads_124 : decode cX12_loads 124 = .ok (.iload_n 2, 1) := by decide +kernel
theorem dX12_loads_125 : decode cX12_loads 125 = .ok (.bipush 61, 2) := by decide +kernel
theorem dX12_loads_127 : decode cX12_loads 127 = .ok (.if_icmp .ge 24, 3) := by decide +kernel
theorem dX12_loads_130 : decode cX12_loads 130 = .ok (.aload_n 0, 1) := by decide +kernel
theorem dX12_loads_131 : decode cX12_loads 131 = .ok (.getfield 197, 3) := by decide +kernel
theorem dX12_loads_134 : decode cX12_loads 134 = .ok (.bipush 61, 2) := by decide +kernel
theorem dX12_loads_136 : decode cX12_loads 136 = .ok (.aload_n 0, 1) := by decide +kernel
theorem dX12_loads_137 : decode cX12_loads 137 = .ok (.getfield 307, 3) := by decide +kernel
theorem dX12_loads_140 : decode cX12_loads 140 = .ok (.imul, 1) := by decide +kernel
theorem dX12_loads_141 : decode cX12_loads 141 = .ok (.iload_n 2, 1) := by decide +kernel
theorem dX12_loads_142 : decode cX12_loads 142 = .ok (.iadd, 1) := by decide +kernel
theorem dX12_loads_143 : decode cX12_loads 143 = .ok (.iconst 0, 1) := by decide +kernel
theorem dX12_loads_144 : decode cX12_loads 144 = .ok (.iastore, 1) := by decide +kernel
theorem dX12_loads_145 : decode cX12_loads 145 = .ok (.iinc 2 1, 3) := by decide +kernel
theorem dX12_loads_148 : decode cX12_loads 148 = .ok (.goto (-24), 3) := by decide +kernel
theorem dX12_loads_151 : decode cX12_loads 151 = .ok (.aload_n 0, 1) := by decide +kernel
theorem dX12_loads_152 : decode cX12_loads 152 = .ok (.getfield 307, 3) := by decide +kernel
theorem dX12_loads_155 : decode cX12_loads 155 = .ok (.iconst 1, 1) := by decide +kernel
theorem dX12_loads_156 : decode cX12_loads 156 = .ok (.isub, 1) := by decide +kernel
theorem dX12_loads_157 : decode cX12_loads 157 = .ok (.istore_n 2, 1) := by decide +kernel
theorem dX12_loads_158 : decode cX12_loads 158 = .ok (.iload_n 2, 1) := by decide +kernel
theorem dX12_loads_159 : decode cX12_loads 159 = .ok (.ifCond .lt 115, 3) := by decide +kernel
theorem dX12_loads_162 : decode cX12_loads 162 = .ok (.iconst 0, 1) := by decide +kernel
theorem dX12_loads_163 : decode cX12_loads 163 = .ok (.istore_n 3, 1) := by decide +kernel
theorem dX12_loads_164 : decode cX12_loads 164 = .ok (.iload_n 3, 1) := by decide +kernel
theorem dX12_loads_165 : decode cX12_loads 165 = .ok (.bipush 61, 2) := by decide +kernel
theorem dX12_loads_167 : decode cX12_loads 167 = .ok (.if_icmp .ge 101, 3) := by decide +kernel
theorem dX12_loads_170 : decode cX12_loads 170 = .ok (.aload_n 0, 1) := by decide +kernel
theorem dX12_loads_171 : decode cX12_loads 171 = .ok (.getfield 197, 3) := by decide +kernel
theorem dX12_loads_174 : decode cX12_loads 174 = .ok (.bipush 61, 2) := by decide +kernel
theorem dX12_loads_176 : decode cX12_loads 176 = .ok (.iload_n 2, 1) := by decide +kernel
theorem dX12_loads_177 : decode cX12_loads 177 = .ok (.iconst 1, 1) := by decide +kernel
theorem dX12_loads_178 : decode cX12_loads 178 = .ok (.iadd, 1) := by decide +kernel
theorem dX12_loads_179 : decode cX12_loads 179 = .ok (.imul, 1) := by decide +kernel
theorem dX12_loads_180 : decode cX12_loads 180 = .ok (.iload_n 3, 1) := by decide +kernel
theorem dX12_loads_181 : decode cX12_loads 181 = .ok (.iadd, 1) := by decide +kernel
theorem dX12_loads_182 : decode cX12_loads 182 = .ok (.iaload, 1) := by decide +kernel
theorem dX12_loads_183 : decode cX12_loads 183 = .ok (.istore 4, 2) := by decide +kernel
theorem dX12_loads_185 : decode cX12_loads 185 = .ok (.aload_n 0, 1) := by decide +kernel
theorem dX12_loads_186 : decode cX12_loads 186 = .ok (.getfield 200, 3) := by decide +kernel
theorem dX12_loads_189 : decode cX12_loads 189 = .ok (.iload_n 2, 1) := by decide +kernel
theorem dX12_loads_190 : decode cX12_loads 190 = .ok (.baload, 1) := by decide +kernel
theorem dX12_loads_191 : decode cX12_loads 191 = .ok (.ifCond .eq 58, 3) := by decide +kernel
theorem dX12_loads_194 : decode cX12_loads 194 = .ok (.aload_n 0, 1) := by decide +kernel
theorem dX12_loads_195 : decode cX12_loads 195 = .ok (.getfield 98, 3) := by decide +kernel
theorem dX12_loads_198 : decode cX12_loads 198 = .ok (.iload_n 2, 1) := by decide +kernel
theorem dX12_loads_199 : decode cX12_loads 199 = .ok (.iaload, 1) := by decide +kernel
theorem dX12_loads_200 : decode cX12_loads 200 = .ok (.iload_n 3, 1) := by decide +kernel
theorem dX12_loads_201 : decode cX12_loads 201 = .ok (.if_icmp .gt 48, 3) := by decide +kernel
theorem dX12_loads_204 : decode cX12_loads 204 = .ok (.bipush 100, 2) := by decide +kernel
theorem dX12_loads_206 : decode cX12_loads 206 = .ok (.aload_n 0, 1) := by decide +kernel
theorem dX12_loads_207 : decode cX12_loads 207 = .ok (.getfield 98, 3) := by decide +kernel
theorem dX12_loads_210 : decode cX12_loads 210 = .ok (.iload_n 2, 1) := by decide +kernel
theorem dX12_loads_211 : decode cX12_loads 211 = .ok (.iaload, 1) := by decide +kernel
theorem dX12_loads_212 : decode cX12_loads 212 = .ok (.imul, 1) := by decide +kernel
theorem dX12_loads_213 : decode cX12_loads 213 = .ok (.iconst 1, 1) := by decide +kernel
theorem dX12_loads_214 : decode cX12_loads 214 = .ok (.isub, 1) := by decide +kernel
theorem dX12_loads_215 : decode cX12_loads 215 = .ok (.aload_n 0, 1) := by decide +kernel
theorem dX12_loads_216 : decode cX12_loads 216 = .ok (.getfield 197, 3) := by decide +kernel
theorem dX12_loads_219 : decode cX12_loads 219 = .ok (.bipush 61, 2) := by decide +kernel
theorem dX12_loads_221 : decode cX12_loads 221 = .ok (.iload_n 2, 1) := by decide +kernel
theorem dX12_loads_222 : decode cX12_loads 222 = .ok (.iconst 1, 1) := by decide +kernel
theorem dX12_loads_223 : decode cX12_loads 223 = .ok (.iadd, 1) := by decide +kernel
theorem dX12_loads_224 : decode cX12_loads 224 = .ok (.imul, 1) := by decide +kernel
theorem dX12_loads_225 : decode cX12_loads 225 = .ok (.iload_n 3, 1) := by decide +kernel
theorem dX12_loads_226 : decode cX12_loads 226 = .ok (.iadd, 1) := by decide +kernel
theorem dX12_loads_227 : decode cX12_loads 227 = .ok (.aload_n 0, 1) := by decide +kernel
theorem dX12_loads_228 : decode cX12_loads 228 = .ok (.getfield 98, 3) := by decide +kernel
theorem dX12_loads_231 : decode cX12_loads 231 = .ok (.iload_n 2, 1) := by decide +kernel
theorem dX12_loads_232 : decode cX12_loads 232 = .ok (.iaload, 1) := by decide +kernel
theorem dX12_loads_233 : decode cX12_loads 233 = .ok (.isub, 1) := by decide +kernel
theorem dX12_loads_234 : decode cX12_loads 234 = .ok (.iaload, 1) := by decide +kernel
theorem dX12_loads_235 : decode cX12_loads 235 = .ok (.iadd, 1) := by decide +kernel
theorem dX12_loads_236 : decode cX12_loads 236 = .ok (.istore 5, 2) := by decide +kernel
theorem dX12_loads_238 : decode cX12_loads 238 = .ok (.iload 5, 2) := by decide +kernel
theorem dX12_loads_240 : decode cX12_loads 240 = .ok (.iload 4, 2) := by decide +kernel
theorem dX12_loads_242 : decode cX12_loads 242 = .ok (.if_icmp .le 7, 3) := by decide +kernel
theorem dX12_loads_245 : decode cX12_loads 245 = .ok (.iload 5, 2) := by decide +kernel
theorem dX12_loads_247 : decode cX12_loads 247 = .ok (.istore 4, 2) := by decide +kernel
theorem dX12_loads_249 : decode cX12_loads 249 = .ok (.aload_n 0, 1) := by decide +kernel
theorem dX12_loads_250 : decode cX12_loads 250 = .ok (.getfield 197, 3) := by decide +kernel
theorem dX12_loads_253 : decode cX12_loads 253 = .ok (.bipush 61, 2) := by decide +kernel
theorem dX12_loads_255 : decode cX12_loads 255 = .ok (.iload_n 2, 1) := by decide +kernel
theorem dX12_loads_256 : decode cX12_loads 256 = .ok (.imul, 1) := by decide +kernel
theorem dX12_loads_257 : decode cX12_loads 257 = .ok (.iload_n 3, 1) := by decide +kernel
theorem dX12_loads_258 : decode cX12_loads 258 = .ok (.iadd, 1) := by decide +kernel
theorem dX12_loads_259 : decode cX12_loads 259 = .ok (.iload 4, 2) := by decide +kernel
theorem dX12_loads_261 : decode cX12_loads 261 = .ok (.iastore, 1) := by decide +kernel
theorem dX12_loads_262 : decode cX12_loads 262 = .ok (.iinc 3 1, 3) := by decide +kernel
theorem dX12_loads_265 : decode cX12_loads 265 = .ok (.goto (-101), 3) := by decide +kernel
theorem dX12_loads_268 : decode cX12_loads 268 = .ok (.iinc 2 (-1), 3) := by decide +kernel
theorem dX12_loads_271 : decode cX12_loads 271 = .ok (.goto (-113), 3) := by decide +kernel
theorem dX12_loads_274 : decode cX12_loads 274 = .ok (.aload_n 0, 1) := by decide +kernel
theorem dX12_loads_275 : decode cX12_loads 275 = .ok (.getfield 119, 3) := by decide +kernel
theorem dX12_loads_278 : decode cX12_loads 278 = .ok (.iload_n 1, 1) := by decide +kernel
theorem dX12_loads_279 : decode cX12_loads 279 = .ok (.iaload, 1) := by decide +kernel
theorem dX12_loads_280 : decode cX12_loads 280 = .ok (.istore_n 2, 1) := by decide +kernel
theorem dX12_loads_281 : decode cX12_loads 281 = .ok (.iconst 0, 1) := by decide +kernel
theorem dX12_loads_282 : decode cX12_loads 282 = .ok (.istore_n 3, 1) := by decide +kernel
theorem dX12_loads_283 : decode cX12_loads 283 = .ok (.iload_n 3, 1) := by decide +kernel
theorem dX12_loads_284 : decode cX12_loads 284 = .ok (.aload_n 0, 1) := by decide +kernel
theorem dX12_loads_285 : decode cX12_loads 285 = .ok (.getfield 307, 3) := by decide +kernel
theorem dX12_loads_288 : decode cX12_loads 288 = .ok (.if_icmp .ge 93, 3) := by decide +kernel
theorem dX12_loads_291 : decode cX12_loads 291 = .ok (.aload_n 0, 1) := by decide +kernel
theorem dX12_loads_292 : decode cX12_loads 292 = .ok (.getfield 200, 3) := by decide +kernel
theorem dX12_loads_295 : decode cX12_loads 295 = .ok (.iload_n 3, 1) := by decide +kernel
theorem dX12_loads_296 : decode cX12_loads 296 = .ok (.baload, 1) := by decide +kernel
theorem dX12_loads_297 : decode cX12_loads 297 = .ok (.ifCond .eq 78, 3) := by decide +kernel
theorem dX12_loads_300 : decode cX12_loads 300 = .ok (.aload_n 0, 1) := by decide +kernel
theorem dX12_loads_301 : decode cX12_loads 301 = .ok (.getfield 98, 3) := by decide +kernel
theorem dX12_loads_304 : decode cX12_loads 304 = .ok (.iload_n 3, 1) := by decide +kernel
theorem dX12_loads_305 : decode cX12_loads 305 = .ok (.iaload, 1) := by decide +kernel
theorem dX12_loads_306 : decode cX12_loads 306 = .ok (.iload_n 2, 1) := by decide +kernel
theorem dX12_loads_307 : decode cX12_loads 307 = .ok (.if_icmp .gt 68, 3) := by decide +kernel
theorem dX12_loads_310 : decode cX12_loads 310 = .ok (.bipush 100, 2) := by decide +kernel
theorem dX12_loads_312 : decode cX12_loads 312 = .ok (.aload_n 0, 1) := by decide +kernel
theorem dX12_loads_313 : decode cX12_loads 313 = .ok (.getfield 98, 3) := by decide +kernel
theorem dX12_loads_316 : decode cX12_loads 316 = .ok (.iload_n 3, 1) := by decide +kernel
theorem dX12_loads_317 : decode cX12_loads 317 = .ok (.iaload, 1) := by decide +kernel
theorem dX12_loads_318 : decode cX12_loads 318 = .ok (.imul, 1) := by decide +kernel
theorem dX12_loads_319 : decode cX12_loads 319 = .ok (.iconst 1, 1) := by decide +kernel
theorem dX12_loads_320 : decode cX12_loads 320 = .ok (.isub, 1) := by decide +kernel
theorem dX12_loads_321 : decode cX12_loads 321 = .ok (.aload_n 0, 1) := by decide +kernel
theorem dX12_loads_322 : decode cX12_loads 322 = .ok (.getfield 197, 3) := by decide +kernel
theorem dX12_loads_325 : decode cX12_loads 325 = .ok (.bipush 61, 2) := by decide +kernel
theorem dX12_loads_327 : decode cX12_loads 327 = .ok (.iload_n 3, 1) := by decide +kernel
theorem dX12_loads_328 : decode cX12_loads 328 = .ok (.iconst 1, 1) := by decide +kernel
theorem dX12_loads_329 : decode cX12_loads 329 = .ok (.iadd, 1) := by decide +kernel
theorem dX12_loads_330 : decode cX12_loads 330 = .ok (.imul, 1) := by decide +kernel
theorem dX12_loads_331 : decode cX12_loads 331 = .ok (.iload_n 2, 1) := by decide +kernel
theorem dX12_loads_332 : decode cX12_loads 332 = .ok (.iadd, 1) := by decide +kernel
theorem dX12_loads_333 : decode cX12_loads 333 = .ok (.aload_n 0, 1) := by decide +kernel
theorem dX12_loads_334 : decode cX12_loads 334 = .ok (.getfield 98, 3) := by decide +kernel
theorem dX12_loads_337 : decode cX12_loads 337 = .ok (.iload_n 3, 1) := by decide +kernel
theorem dX12_loads_338 : decode cX12_loads 338 = .ok (.iaload, 1) := by decide +kernel
theorem dX12_loads_339 : decode cX12_loads 339 = .ok (.isub, 1) := by decide +kernel
theorem dX12_loads_340 : decode cX12_loads 340 = .ok (.iaload, 1) := by decide +kernel
theorem dX12_loads_341 : decode cX12_loads 341 = .ok (.iadd, 1) := by decide +kernel
theorem dX12_loads_342 : decode cX12_loads 342 = .ok (.aload_n 0, 1) := by decide +kernel
theorem dX12_loads_343 : decode cX12_loads 343 = .ok (.getfield 197, 3) := by decide +kernel
theorem dX12_loads_346 : decode cX12_loads 346 = .ok (.bipush 61, 2) := by decide +kernel
theorem dX12_loads_348 : decode cX12_loads 348 = .ok (.iload_n 3, 1) := by decide +kernel
theorem dX12_loads_349 : decode cX12_loads 349 = .ok (.imul, 1) := by decide +kernel
theorem dX12_loads_350 : decode cX12_loads 350 = .ok (.iload_n 2, 1) := by decide +kernel
theorem dX12_loads_351 : decode cX12_loads 351 = .ok (.iadd, 1) := by decide +kernel
theorem dX12_loads_352 : decode cX12_loads 352 = .ok (.iaload, 1) := by decide +kernel
theorem dX12_loads_353 : decode cX12_loads 353 = .ok (.if_icmp .ge 6, 3) := by decide +kernel
theorem dX12_loads_356 : decode cX12_loads 356 = .ok (.goto 19, 3) := by decide +kernel
theorem dX12_loads_359 : decode cX12_loads 359 = .ok (.aload_n 0, 1) := by decide +kernel
theorem dX12_loads_360 : decode cX12_loads 360 = .ok (.getfield 194, 3) := by decide +kernel
theorem dX12_loads_363 : decode cX12_loads 363 = .ok (.iload_n 3, 1) := by decide +kernel
theorem dX12_loads_364 : decode cX12_loads 364 = .ok (.iload_n 1, 1) := by decide +kernel
theorem dX12_loads_365 : decode cX12_loads 365 = .ok (.iastore, 1) := by decide +kernel
theorem dX12_loads_366 : decode cX12_loads 366 = .ok (.iload_n 2, 1) := by decide +kernel
theorem dX12_loads_367 : decode cX12_loads 367 = .ok (.aload_n 0, 1) := by decide +kernel
theorem dX12_loads_368 : decode cX12_loads 368 = .ok (.getfield 98, 3) := by decide +kernel
theorem dX12_loads_371 : decode cX12_loads 371 = .ok (.iload_n 3, 1) := by decide +kernel
theorem dX12_loads_372 : decode cX12_loads 372 = .ok (.iaload, 1) := by decide +kernel
theorem dX12_loads_373 : decode cX12_loads 373 = .ok (.isub, 1) := by decide +kernel
theorem dX12_loads_374 : decode cX12_loads 374 = .ok (.istore_n 2, 1) := by decide +kernel
theorem dX12_loads_375 : decode cX12_loads 375 = .ok (.iinc 3 1, 3) := by decide +kernel
theorem dX12_loads_378 : decode cX12_loads 378 = .ok (.goto (-95), 3) := by decide +kernel
theorem dX12_loads_381 : decode cX12_loads 381 = .ok (.iinc 1 1, 3) := by decide +kernel
theorem dX12_loads_384 : decode cX12_loads 384 = .ok (.goto (-359), 3) := by decide +kernel
theorem dX12_loads_387 : decode cX12_loads 387 = .ok (.return_, 1) := by decide +kernel
theorem dX12_told_0 : decode cX12_told 0 = .ok (.aload_n 0, 1) := by decide +kernel
theorem dX12_told_1 : decode cX12_told 1 = .ok (.iload_n 1, 1) := by decide +kernel
theorem dX12_told_2 : decode cX12_told 2 = .ok (.invokevirtual 369, 3) := by decide +kernel
theorem dX12_told_5 : decode cX12_told 5 = .ok (.ifCond .eq 10, 3) := by decide +kernel
theorem dX12_told_8 : decode cX12_told 8 = .ok (.aload_n 0, 1) := by decide +kernel
theorem dX12_told_9 : decode cX12_told 9 = .ok (.getfield 310, 3) := by decide +kernel
theorem dX12_told_12 : decode cX12_told 12 = .ok (.ifCond .ne 5, 3) := by decide +kernel
theorem dX12_told_15 : decode cX12_told 15 = .ok (.iconst (-1), 1) := by decide +kernel
theorem dX12_told_16 : decode cX12_told 16 = .ok (.ireturn, 1) := by decide +kernel
theorem dX12_told_17 : decode cX12_told 17 = .ok (.iload_n 2, 1) := by decide +kernel
theorem dX12_told_18 : decode cX12_told 18 = .ok (.tableswitch 106 0 7 #[46, 53, 60, 67, 74, 81, 88, 95], 46) := by decide +kernel
theorem dX12_told_64 : decode cX12_told 64 = .ok (.aload_n 0, 1) := by decide +kernel
theorem dX12_told_65 : decode cX12_told 65 = .ok (.getfield 173, 3) := by decide +kernel
theorem dX12_told_68 : decode cX12_told 68 = .ok (.iload_n 1, 1) := by decide +kernel
theorem dX12_told_69 : decode cX12_told 69 = .ok (.iaload, 1) := by decide +kernel
theorem dX12_told_70 : decode cX12_told 70 = .ok (.ireturn, 1) := by decide +kernel
theorem dX12_told_71 : decode cX12_told 71 = .ok (.aload_n 0, 1) := by decide +kernel
theorem dX12_told_72 : decode cX12_told 72 = .ok (.getfield 176, 3) := by decide +kernel
theorem dX12_told_75 : decode cX12_told 75 = .ok (.iload_n 1, 1) := by decide +kernel
theorem dX12_told_76 : decode cX12_told 76 = .ok (.iaload, 1) := by decide +kernel
theorem dX12_told_77 : decode cX12_told 77 = .ok (.ireturn, 1) := by decide +kernel
theorem dX12_told_78 : decode cX12_told 78 = .ok (.aload_n 0, 1) := by decide +kernel
theorem dX12_told_79 : decode cX12_told 79 = .ok (.getfield 179, 3) := by decide +kernel
theorem dX12_told_82 : decode cX12_told 82 = .ok (.iload_n 1, 1) := by decide +kernel
theorem dX12_told_83 : decode cX12_told 83 = .ok (.iaload, 1) := by decide +kernel
theorem dX12_told_84 : decode cX12_told 84 = .ok (.ireturn, 1) := by decide +kernel
theorem dX12_told_85 : decode cX12_told 85 = .ok (.aload_n 0, 1) := by decide +kernel
theorem dX12_told_86 : decode cX12_told 86 = .ok (.getfield 182, 3) := by decide +kernel
theorem dX12_told_89 : decode cX12_told 89 = .ok (.iload_n 1, 1) := by decide +kernel
theorem dX12_told_90 : decode cX12_told 90 = .ok (.iaload, 1) := by decide +kernel
theorem dX12_told_91 : decode cX12_told 91 = .ok (.ireturn, 1) := by decide +kernel
theorem dX12_told_92 : decode cX12_told 92 = .ok (.aload_n 0, 1) := by decide +kernel
theorem dX12_told_93 : decode cX12_told 93 = .ok (.getfield 185, 3) := by decide +kernel
theorem dX12_told_96 : decode cX12_told 96 = .ok (.iload_n 1, 1) := by decide +kernel
theorem dX12_told_97 : decode cX12_told 97 = .ok (.iaload, 1) := by decide +kernel
theorem dX12_told_98 : decode cX12_told 98 = .ok (.ireturn, 1) := by decide +kernel
theorem dX12_told_99 : decode cX12_told 99 = .ok (.aload_n 0, 1) := by decide +kernel
theorem dX12_told_100 : decode cX12_told 100 = .ok (.getfield 188, 3) := by decide +kernel
theorem dX12_told_103 : decode cX12_told 103 = .ok (.iload_n 1, 1) := by decide +kernel
theorem dX12_told_104 : decode cX12_told 104 = .ok (.iaload, 1) := by decide +kernel
theorem dX12_told_105 : decode cX12_told 105 = .ok (.ireturn, 1) := by decide +kernel
theorem dX12_told_106 : decode cX12_told 106 = .ok (.aload_n 0, 1) := by decide +kernel
theorem dX12_told_107 : decode cX12_told 107 = .ok (.getfield 191, 3) := by decide +kernel
theorem dX12_told_110 : decode cX12_told 110 = .ok (.iload_n 1, 1) := by decide +kernel
theorem dX12_told_111 : decode cX12_told 111 = .ok (.iaload, 1) := by decide +kernel
theorem dX12_told_112 : decode cX12_told 112 = .ok (.ireturn, 1) := by decide +kernel
theorem dX12_told_113 : decode cX12_told 113 = .ok (.aload_n 0, 1) := by decide +kernel
theorem dX12_told_114 : decode cX12_told 114 = .ok (.invokevirtual 372, 3) := by decide +kernel
theorem dX12_told_117 : decode cX12_told 117 = .ok (.aload_n 0, 1) := by decide +kernel
theorem dX12_told_118 : decode cX12_told 118 = .ok (.getfield 194, 3) := by decide +kernel
theorem dX12_told_121 : decode cX12_told 121 = .ok (.iload_n 1, 1) := by decide +kernel
theorem dX12_told_122 : decode cX12_told 122 = .ok (.iaload, 1) := by decide +kernel
theorem dX12_told_123 : decode cX12_told 123 = .ok (.ireturn, 1) := by decide +kernel
theorem dX12_told_124 : decode cX12_told 124 = .ok (.iconst (-1), 1) := by decide +kernel
theorem dX12_told_125 : decode cX12_told 125 = .ok (.ireturn, 1) := by decide +kernel
theorem dX12_stands_0 : decode cX12_stands 0 = .ok (.iconst 0, 1) := by decide +kernel
theorem dX12_stands_1 : decode cX12_stands 1 = .ok (.istore_n 1, 1) := by decide +kernel
theorem dX12_stands_2 : decode cX12_stands 2 = .ok (.iload_n 1, 1) := by decide +kernel
theorem dX12_stands_3 : decode cX12_stands 3 = .ok (.bipush 36, 2) := by decide +kernel
theorem dX12_stands_5 : decode cX12_stands 5 = .ok (.if_icmp .ge 21, 3) := by decide +kernel
theorem dX12_stands_8 : decode cX12_stands 8 = .ok (.aload_n 0, 1) := by decide +kernel
theorem dX12_stands_9 : decode cX12_stands 9 = .ok (.getfield 140, 3) := by decide +kernel
theorem dX12_stands_12 : decode cX12_stands 12 = .ok (.iload_n 1, 1) := by decide +kernel
theorem dX12_stands_13 : decode cX12_stands 13 = .ok (.aload_n 0, 1) := by decide +kernel
theorem dX12_stands_14 : decode cX12_stands 14 = .ok (.getfield 125, 3) := by decide +kernel
theorem dX12_stands_17 : decode cX12_stands 17 = .ok (.iload_n 1, 1) := by decide +kernel
theorem dX12_stands_18 : decode cX12_stands 18 = .ok (.iaload, 1) := by decide +kernel
theorem dX12_stands_19 : decode cX12_stands 19 = .ok (.iastore, 1) := by decide +kernel
theorem dX12_stands_20 : decode cX12_stands 20 = .ok (.iinc 1 1, 3) := by decide +kernel
theorem dX12_stands_23 : decode cX12_stands 23 = .ok (.goto (-21), 3) := by decide +kernel
theorem dX12_stands_26 : decode cX12_stands 26 = .ok (.iconst 0, 1) := by decide +kernel
theorem dX12_stands_27 : decode cX12_stands 27 = .ok (.istore_n 1, 1) := by decide +kernel
theorem dX12_stands_28 : decode cX12_stands 28 = .ok (.iload_n 1, 1) := by decide +kernel
theorem dX12_stands_29 : decode cX12_stands 29 = .ok (.bipush 6, 2) := by decide +kernel
theorem dX12_stands_31 : decode cX12_stands 31 = .ok (.if_icmp .ge 21, 3) := by decide +kernel
theorem dX12_stands_34 : decode cX12_stands 34 = .ok (.aload_n 0, 1) := by decide +kernel
theorem dX12_stands_35 : decode cX12_stands 35 = .ok (.getfield 143, 3) := by decide +kernel
theorem dX12_stands_38 : decode cX12_stands 38 = .ok (.iload_n 1, 1) := by decide +kernel
theorem dX12_stands_39 : decode cX12_stands 39 = .ok (.aload_n 0, 1) := by decide +kernel
theorem dX12_stands_40 : decode cX12_stands 40 = .ok (.getfield 128, 3) := by decide +kernel
theorem dX12_stands_43 : decode cX12_stands 43 = .ok (.iload_n 1, 1) := by decide +kernel
theorem dX12_stands_44 : decode cX12_stands 44 = .ok (.iaload, 1) := by decide +kernel
theorem dX12_stands_45 : decode cX12_stands 45 = .ok (.iastore, 1) := by decide +kernel
theorem dX12_stands_46 : decode cX12_stands 46 = .ok (.iinc 1 1, 3) := by decide +kernel
theorem dX12_stands_49 : decode cX12_stands 49 = .ok (.goto (-21), 3) := by decide +kernel
theorem dX12_stands_52 : decode cX12_stands 52 = .ok (.return_, 1) := by decide +kernel
theorem dX12_limit_0 : decode cX12_limit 0 = .ok (.aload_n 0, 1) := by decide +kernel
theorem dX12_limit_1 : decode cX12_limit 1 = .ok (.iload_n 1, 1) := by decide +kernel
theorem dX12_limit_2 : decode cX12_limit 2 = .ok (.invokevirtual 318, 3) := by decide +kernel
theorem dX12_limit_5 : decode cX12_limit 5 = .ok (.ifCond .eq 11, 3) := by decide +kernel
theorem dX12_limit_8 : decode cX12_limit 8 = .ok (.aload_n 0, 1) := by decide +kernel
theorem dX12_limit_9 : decode cX12_limit 9 = .ok (.iload_n 2, 1) := by decide +kernel
theorem dX12_limit_10 : decode cX12_limit 10 = .ok (.invokevirtual 369, 3) := by decide +kernel
theorem dX12_limit_13 : decode cX12_limit 13 = .ok (.ifCond .ne 5, 3) := by decide +kernel
theorem dX12_limit_16 : decode cX12_limit 16 = .ok (.iconst (-1), 1) := by decide +kernel
theorem dX12_limit_17 : decode cX12_limit 17 = .ok (.ireturn, 1) := by decide +kernel
theorem dX12_limit_18 : decode cX12_limit 18 = .ok (.aload_n 0, 1) := by decide +kernel
theorem dX12_limit_19 : decode cX12_limit 19 = .ok (.invokevirtual 375, 3) := by decide +kernel
theorem dX12_limit_22 : decode cX12_limit 22 = .ok (.aload_n 0, 1) := by decide +kernel
theorem dX12_limit_23 : decode cX12_limit 23 = .ok (.iload_n 1, 1) := by decide +kernel
theorem dX12_limit_24 : decode cX12_limit 24 = .ok (.iload_n 2, 1) := by decide +kernel
theorem dX12_limit_25 : decode cX12_limit 25 = .ok (.invokevirtual 357, 3) := by decide +kernel
theorem dX12_limit_28 : decode cX12_limit 28 = .ok (.ireturn, 1) := by decide +kernel
theorem dX12_rule_0 : decode cX12_rule 0 = .ok (.aload_n 0, 1) := by decide +kernel
theorem dX12_rule_1 : decode cX12_rule 1 = .ok (.iload_n 1, 1) := by decide +kernel
theorem dX12_rule_2 : decode cX12_rule 2 = .ok (.invokevirtual 318, 3) := by decide +kernel
theorem dX12_rule_5 : decode cX12_rule 5 = .ok (.ifCond .eq 11, 3) := by decide +kernel
theorem dX12_rule_8 : decode cX12_rule 8 = .ok (.aload_n 0, 1) := by decide +kernel
theorem dX12_rule_9 : decode cX12_rule 9 = .ok (.iload_n 2, 1) := by decide +kernel
theorem dX12_rule_10 : decode cX12_rule 10 = .ok (.invokevirtual 369, 3) := by decide +kernel
theorem dX12_rule_13 : decode cX12_rule 13 = .ok (.ifCond .ne 5, 3) := by decide +kernel
theorem dX12_rule_16 : decode cX12_rule 16 = .ok (.iconst (-1), 1) := by decide +kernel
theorem dX12_rule_17 : decode cX12_rule 17 = .ok (.ireturn, 1) := by decide +kernel
theorem dX12_rule_18 : decode cX12_rule 18 = .ok (.aload_n 0, 1) := by decide +kernel
theorem dX12_rule_19 : decode cX12_rule 19 = .ok (.invokevirtual 375, 3) := by decide +kernel
theorem dX12_rule_22 : decode cX12_rule 22 = .ok (.aload_n 0, 1) := by decide +kernel
theorem dX12_rule_23 : decode cX12_rule 23 = .ok (.iload_n 1, 1) := by decide +kernel
theorem dX12_rule_24 : decode cX12_rule 24 = .ok (.iload_n 2, 1) := by decide +kernel
theorem dX12_rule_25 : decode cX12_rule 25 = .ok (.invokevirtual 336, 3) := by decide +kernel
theorem dX12_rule_28 : decode cX12_rule 28 = .ok (.aload_n 0, 1) := by decide +kernel
theorem dX12_rule_29 : decode cX12_rule 29 = .ok (.iload_n 1, 1) := by decide +kernel
theorem dX12_rule_30 : decode cX12_rule 30 = .ok (.iconst 1, 1) := by decide +kernel
theorem dX12_rule_31 : decode cX12_rule 31 = .ok (.iadd, 1) := by decide +kernel
theorem dX12_rule_32 : decode cX12_rule 32 = .ok (.iconst 0, 1) := by decide +kernel
theorem dX12_rule_33 : decode cX12_rule 33 = .ok (.invokevirtual 339, 3) := by decide +kernel
theorem dX12_rule_36 : decode cX12_rule 36 = .ok (.ireturn, 1) := by decide +kernel
theorem dX12_bought_0 : decode cX12_bought 0 = .ok (.aload_n 0, 1) := by decide +kernel
theorem dX12_bought_1 : decode cX12_bought 1 = .ok (.iload_n 1, 1) := by decide +kernel
theorem dX12_bought_2 : decode cX12_bought 2 = .ok (.invokevirtual 318, 3) := by decide +kernel
theorem dX12_bought_5 : decode cX12_bought 5 = .ok (.ifCond .ne 5, 3) := by decide +kernel
theorem dX12_bought_8 : decode cX12_bought 8 = .ok (.iconst (-1), 1) := by decide +kernel
theorem dX12_bought_9 : decode cX12_bought 9 = .ok (.ireturn, 1) := by decide +kernel
theorem dX12_bought_10 : decode cX12_bought 10 = .ok (.aload_n 0, 1) := by decide +kernel
theorem dX12_bought_11 : decode cX12_bought 11 = .ok (.invokevirtual 375, 3) := by decide +kernel
theorem dX12_bought_14 : decode cX12_bought 14 = .ok (.iload_n 2, 1) := by decide +kernel
theorem dX12_bought_15 : decode cX12_bought 15 = .ok (.bipush 10, 2) := by decide +kernel
theorem dX12_bought_17 : decode cX12_bought 17 = .ok (.if_icmp .lt 24, 3) := by decide +kernel
theorem dX12_bought_20 : decode cX12_bought 20 = .ok (.iload_n 2, 1) := by decide +kernel
theorem dX12_bought_21 : decode cX12_bought 21 = .ok (.bipush 16, 2) := by decide +kernel
theorem dX12_bought_23 : decode cX12_bought 23 = .ok (.if_icmp .ge 18, 3) := by decide +kernel
theorem dX12_bought_26 : decode cX12_bought 26 = .ok (.aload_n 0, 1) := by decide +kernel
theorem dX12_bought_27 : decode cX12_bought 27 = .ok (.getfield 125, 3) := by decide +kernel
theorem dX12_bought_30 : decode cX12_bought 30 = .ok (.bipush 6, 2) := by decide +kernel
theorem dX12_bought_32 : decode cX12_bought 32 = .ok (.iload_n 1, 1) := by decide +kernel
theorem dX12_bought_33 : decode cX12_bought 33 = .ok (.imul, 1) := by decide +kernel
theorem dX12_bought_34 : decode cX12_bought 34 = .ok (.iload_n 2, 1) := by decide +kernel
theorem dX12_bought_35 : decode cX12_bought 35 = .ok (.iadd, 1) := by decide +kernel
theorem dX12_bought_36 : decode cX12_bought 36 = .ok (.bipush 10, 2) := by decide +kernel
theorem dX12_bought_38 : decode cX12_bought 38 = .ok (.isub, 1) := by decide +kernel
theorem dX12_bought_39 : decode cX12_bought 39 = .ok (.iaload, 1) := by decide +kernel
theorem dX12_bought_40 : decode cX12_bought 40 = .ok (.ireturn, 1) := by decide +kernel
theorem dX12_bought_41 : decode cX12_bought 41 = .ok (.iload_n 2, 1) := by decide +kernel
theorem dX12_bought_42 : decode cX12_bought 42 = .ok (.bipush 20, 2) := by decide +kernel
theorem dX12_bought_44 : decode cX12_bought 44 = .ok (.if_icmp .lt 19, 3) := by decide +kernel
theorem dX12_bought_47 : decode cX12_bought 47 = .ok (.iload_n 2, 1) := by decide +kernel
theorem dX12_bought_48 : decode cX12_bought 48 = .ok (.bipush 26, 2) := by decide +kernel
theorem dX12_bought_50 : decode cX12_bought 50 = .ok (.if_icmp .ge 13, 3) := by decide +kernel
theorem dX12_bought_53 : decode cX12_bought 53 = .ok (.aload_n 0, 1) := by decide +kernel
theorem dX12_bought_54 : decode cX12_bought 54 = .ok (.iload_n 1, 1) := by decide +kernel
theorem dX12_bought_55 : decode cX12_bought 55 = .ok (.iload_n 2, 1) := by decide +kernel
theorem dX12_bought_56 : decode cX12_bought 56 = .ok (.bipush 20, 2) := by decide +kernel
theorem dX12_bought_58 : decode cX12_bought 58 = .ok (.isub, 1) := by decide +kernel
theorem dX12_bought_59 : decode cX12_bought 59 = .ok (.invokevirtual 325, 3) := by decide +kernel
theorem dX12_bought_62 : decode cX12_bought 62 = .ok (.ireturn, 1) := by decide +kernel
theorem dX12_bought_63 : decode cX12_bought 63 = .ok (.iload_n 2, 1) := by decide +kernel
theorem dX12_bought_64 : decode cX12_bought 64 = .ok (.tableswitch 84 0 2 #[28, 63, 77], 28) := by decide +kernel
theorem dX12_bought_92 : decode cX12_bought 92 = .ok (.iconst 0, 1) := by decide +kernel
theorem dX12_bought_93 : decode cX12_bought 93 = .ok (.istore_n 3, 1) := by decide +kernel
theorem dX12_bought_94 : decode cX12_bought 94 = .ok (.iconst 0, 1) := by decide +kernel
theorem dX12_bought_95 : decode cX12_bought 95 = .ok (.istore 4, 2) := by decide +kernel
theorem dX12_bought_97 : decode cX12_bought 97 = .ok (.iload 4, 2) := by decide +kernel
theorem dX12_bought_99 : decode cX12_bought 99 = .ok (.bipush 6, 2) := by decide +kernel
theorem dX12_bought_101 : decode cX12_bought 101 = .ok (.if_icmp .ge 24, 3) := by decide +kernel
theorem dX12_bought_104 : decode cX12_bought 104 = .ok (.iload_n 3, 1) := by decide +kernel
theorem dX12_bought_105 : decode cX12_bought 105 = .ok (.aload_n 0, 1) := by decide +kernel
theorem dX12_bought_106 : decode cX12_bought 106 = .ok (.getfield 125, 3) := by decide +kernel
theorem dX12_bought_109 : decode cX12_bought 109 = .ok (.bipush 6, 2) := by decide +kernel
theorem dX12_bought_111 : decode cX12_bought 111 = .ok (.iload_n 1, 1) := by decide +kernel
theorem dX12_bought_112 : decode cX12_bought 112 = .ok (.imul, 1) := by decide +kernel
theorem dX12_bought_113 : decode cX12_bought 113 = .ok (.iload 4, 2) := by decide +kernel
theorem dX12_bought_115 : decode cX12_bought 115 = .ok (.iadd, 1) := by decide +kernel
theorem dX12_bought_116 : decode cX12_bought 116 = .ok (.iaload, 1) := by decide +kernel
theorem dX12_bought_117 : decode cX12_bought 117 = .ok (.iadd, 1) := by decide +kernel
theorem dX12_bought_118 : decode cX12_bought 118 = .ok (.istore_n 3, 1) := by decide +kernel
theorem dX12_bought_119 : decode cX12_bought 119 = .ok (.iinc 4 1, 3) := by decide +kernel
theorem dX12_bought_122 : decode cX12_bought 122 = .ok (.goto (-25), 3) := by decide +kernel
theorem dX12_bought_125 : decode cX12_bought 125 = .ok (.iload_n 3, 1) := by decide +kernel
theorem dX12_bought_126 : decode cX12_bought 126 = .ok (.ireturn, 1) := by decide +kernel
theorem dX12_bought_127 : decode cX12_bought 127 = .ok (.aload_n 0, 1) := by decide +kernel
theorem dX12_bought_128 : decode cX12_bought 128 = .ok (.getfield 107, 3) := by decide +kernel
theorem dX12_bought_131 : decode cX12_bought 131 = .ok (.iload_n 1, 1) := by decide +kernel
theorem dX12_bought_132 : decode cX12_bought 132 = .ok (.iaload, 1) := by decide +kernel
theorem dX12_bought_133 : decode cX12_bought 133 = .ok (.aload_n 0, 1) := by decide +kernel
theorem dX12_bought_134 : decode cX12_bought 134 = .ok (.getfield 128, 3) := by decide +kernel
theorem dX12_bought_137 : decode cX12_bought 137 = .ok (.iload_n 1, 1) := by decide +kernel
theorem dX12_bought_138 : decode cX12_bought 138 = .ok (.iaload, 1) := by decide +kernel
theorem dX12_bought_139 : decode cX12_bought 139 = .ok (.isub, 1) := by decide +kernel
theorem dX12_bought_140 : decode cX12_bought 140 = .ok (.ireturn, 1) := by decide +kernel
theorem dX12_bought_141 : decode cX12_bought 141 = .ok (.aload_n 0, 1) := by decide +kernel
theorem dX12_bought_142 : decode cX12_bought 142 = .ok (.getfield 131, 3) := by decide +kernel
theorem dX12_bought_145 : decode cX12_bought 145 = .ok (.iload_n 1, 1) := by decide +kernel
theorem dX12_bought_146 : decode cX12_bought 146 = .ok (.iaload, 1) := by decide +kernel
theorem dX12_bought_147 : decode cX12_bought 147 = .ok (.ireturn, 1) := by decide +kernel
theorem dX12_bought_148 : decode cX12_bought 148 = .ok (.iconst (-1), 1) := by decide +kernel
theorem dX12_bought_149 : decode cX12_bought 149 = .ok (.ireturn, 1) := by decide +kernel
theorem dX12_last_0 : decode cX12_last 0 = .ok (.iload_n 1, 1) := by decide +kernel
theorem dX12_last_1 : decode cX12_last 1 = .ok (.invokestatic 314, 3) := by decide +kernel
theorem dX12_last_4 : decode cX12_last 4 = .ok (.ifCond .eq 12, 3) := by decide +kernel
theorem dX12_last_7 : decode cX12_last 7 = .ok (.aload_n 0, 1) := by decide +kernel
theorem dX12_last_8 : decode cX12_last 8 = .ok (.getfield 113, 3) := by decide +kernel
theorem dX12_last_11 : decode cX12_last 11 = .ok (.iload_n 1, 1) := by decide +kernel
theorem dX12_last_12 : decode cX12_last 12 = .ok (.iaload, 1) := by decide +kernel
theorem dX12_last_13 : decode cX12_last 13 = .ok (.goto 4, 3) := by decide +kernel
theorem dX12_last_16 : decode cX12_last 16 = .ok (.iconst 0, 1) := by decide +kernel
theorem dX12_last_17 : decode cX12_last 17 = .ok (.ireturn, 1) := by decide +kernel
theorem dX12_gets_0 : decode cX12_gets 0 = .ok (.iload_n 1, 1) := by decide +kernel
theorem dX12_gets_1 : decode cX12_gets 1 = .ok (.ifCond .lt 15, 3) := by decide +kernel
theorem dX12_gets_4 : decode cX12_gets 4 = .ok (.iload_n 1, 1) := by decide +kernel
theorem dX12_gets_5 : decode cX12_gets 5 = .ok (.iconst 5, 1) := by decide +kernel
theorem dX12_gets_6 : decode cX12_gets 6 = .ok (.if_icmp .gt 10, 3) := by decide +kernel
theorem dX12_gets_9 : decode cX12_gets 9 = .ok (.aload_n 0, 1) := by decide +kernel
theorem dX12_gets_10 : decode cX12_gets 10 = .ok (.getfield 310, 3) := by decide +kernel
theorem dX12_gets_13 : decode cX12_gets 13 = .ok (.ifCond .ne 5, 3) := by decide +kernel
theorem dX12_gets_16 : decode cX12_gets 16 = .ok (.iconst (-1), 1) := by decide +kernel
theorem dX12_gets_17 : decode cX12_gets 17 = .ok (.ireturn, 1) := by decide +kernel
theorem dX12_gets_18 : decode cX12_gets 18 = .ok (.iconst 0, 1) := by decide +kernel
theorem dX12_gets_19 : decode cX12_gets 19 = .ok (.istore_n 2, 1) := by decide +kernel
theorem dX12_gets_20 : decode cX12_gets 20 = .ok (.iconst 0, 1) := by decide +kernel
theorem dX12_gets_21 : decode cX12_gets 21 = .ok (.istore_n 3, 1) := by decide +kernel
theorem dX12_gets_22 : decode cX12_gets 22 = .ok (.iload_n 3, 1) := by decide +kernel
theorem dX12_gets_23 : decode cX12_gets 23 = .ok (.aload_n 0, 1) := by decide +kernel
theorem dX12_gets_24 : decode cX12_gets 24 = .ok (.getfield 307, 3) := by decide +kernel
theorem dX12_gets_27 : decode cX12_gets 27 = .ok (.if_icmp .ge 28, 3) := by decide +kernel
theorem dX12_gets_30 : decode cX12_gets 30 = .ok (.aload_n 0, 1) := by decide +kernel
theorem dX12_gets_31 : decode cX12_gets 31 = .ok (.getfield 89, 3) := by decide +kernel
theorem dX12_gets_34 : decode cX12_gets 34 = .ok (.iload_n 3, 1) := by decide +kernel
theorem dX12_gets_35 : decode cX12_gets 35 = .ok (.iaload, 1) := by decide +kernel
theorem dX12_gets_36 : decode cX12_gets 36 = .ok (.iload_n 1, 1) := by decide +kernel
theorem dX12_gets_37 : decode cX12_gets 37 = .ok (.if_icmp .ne 12, 3) := by decide +kernel
theorem dX12_gets_40 : decode cX12_gets 40 = .ok (.iload_n 2, 1) := by decide +kernel
theorem dX12_gets_41 : decode cX12_gets 41 = .ok (.aload_n 0, 1) := by decide +kernel
theorem dX12_gets_42 : decode cX12_gets 42 = .ok (.getfield 191, 3) := by decide +kernel
theorem dX12_gets_45 : decode cX12_gets 45 = .ok (.iload_n 3, 1) := by decide +kernel
theorem dX12_gets_46 : decode cX12_gets 46 = .ok (.iaload, 1) := by decide +kernel
theorem dX12_gets_47 : decode cX12_gets 47 = .ok (.iadd, 1) := by decide +kernel
theorem dX12_gets_48 : decode cX12_gets 48 = .ok (.istore_n 2, 1) := by decide +kernel
theorem dX12_gets_49 : decode cX12_gets 49 = .ok (.iinc 3 1, 3) := by decide +kernel
theorem dX12_gets_52 : decode cX12_gets 52 = .ok (.goto (-30), 3) := by decide +kernel
theorem dX12_gets_55 : decode cX12_gets 55 = .ok (.iload_n 2, 1) := by decide +kernel
theorem dX12_gets_56 : decode cX12_gets 56 = .ok (.ireturn, 1) := by decide +kernel
theorem dX12_sum_0 : decode cX12_sum 0 = .ok (.aload_n 0, 1) := by decide +kernel
theorem dX12_sum_1 : decode cX12_sum 1 = .ok (.getfield 310, 3) := by decide +kernel
theorem dX12_sum_4 : decode cX12_sum 4 = .ok (.ifCond .eq 12, 3) := by decide +kernel
theorem dX12_sum_7 : decode cX12_sum 7 = .ok (.iload_n 1, 1) := by decide +kernel
theorem dX12_sum_8 : decode cX12_sum 8 = .ok (.ifCond .lt 8, 3) := by decide +kernel
theorem dX12_sum_11 : decode cX12_sum 11 = .ok (.iload_n 1, 1) := by decide +kernel
theorem dX12_sum_12 : decode cX12_sum 12 = .ok (.iconst 4, 1) := by decide +kernel
theorem dX12_sum_13 : decode cX12_sum 13 = .ok (.if_icmp .le 5, 3) := by decide +kernel
theorem dX12_sum_16 : decode cX12_sum 16 = .ok (.iconst (-1), 1) := by decide +kernel
theorem dX12_sum_17 : decode cX12_sum 17 = .ok (.ireturn, 1) := by decide +kernel
theorem dX12_sum_18 : decode cX12_sum 18 = .ok (.iconst 0, 1) := by decide +kernel
theorem dX12_sum_19 : decode cX12_sum 19 = .ok (.istore_n 2, 1) := by decide +kernel
theorem dX12_sum_20 : decode cX12_sum 20 = .ok (.iconst 0, 1) := by decide +kernel
theorem dX12_sum_21 : decode cX12_sum 21 = .ok (.istore_n 3, 1) := by decide +kernel
theorem dX12_sum_22 : decode cX12_sum 22 = .ok (.iload_n 3, 1) := by decide +kernel
theorem dX12_sum_23 : decode cX12_sum 23 = .ok (.aload_n 0, 1) := by decide +kernel
theorem dX12_sum_24 : decode cX12_sum 24 = .ok (.getfield 307, 3) := by decide +kernel
theorem dX12_sum_27 : decode cX12_sum 27 = .ok (.if_icmp .ge 108, 3) := by decide +kernel
theorem dX12_sum_30 : decode cX12_sum 30 = .ok (.aload_n 0, 1) := by decide +kernel
theorem dX12_sum_31 : decode cX12_sum 31 = .ok (.getfield 176, 3) := by decide +kernel
theorem dX12_sum_34 : decode cX12_sum 34 = .ok (.iload_n 3, 1) := by decide +kernel
theorem dX12_sum_35 : decode cX12_sum 35 = .ok (.iaload, 1) := by decide +kernel
theorem dX12_sum_36 : decode cX12_sum 36 = .ok (.aload_n 0, 1) := by decide +kernel
theorem dX12_sum_37 : decode cX12_sum 37 = .ok (.getfield 98, 3) := by decide +kernel
theorem dX12_sum_40 : decode cX12_sum 40 = .ok (.iload_n 3, 1) := by decide +kernel
theorem dX12_sum_41 : decode cX12_sum 41 = .ok (.iaload, 1) := by decide +kernel
theorem dX12_sum_42 : decode cX12_sum 42 = .ok (.imul, 1) := by decide +kernel
theorem dX12_sum_43 : decode cX12_sum 43 = .ok (.istore 4, 2) := by decide +kernel
theorem dX12_sum_45 : decode cX12_sum 45 = .ok (.aload_n 0, 1) := by decide +kernel
theorem dX12_sum_46 : decode cX12_sum 46 = .ok (.getfield 173, 3) := by decide +kernel
theorem dX12_sum_49 : decode cX12_sum 49 = .ok (.iload_n 3, 1) := by decide +kernel
theorem dX12_sum_50 : decode cX12_sum 50 = .ok (.iaload, 1) := by decide +kernel
theorem dX12_sum_51 : decode cX12_sum 51 = .ok (.iconst (-1), 1) := by decide +kernel
theorem dX12_sum_52 : decode cX12_sum 52 = .ok (.if_icmp .ne 33, 3) := by decide +kernel
theorem dX12_sum_55 : decode cX12_sum 55 = .ok (.iload_n 2, 1) := by decide +kernel
theorem dX12_sum_56 : decode cX12_sum 56 = .ok (.iload_n 1, 1) := by decide +kernel
theorem dX12_sum_57 : decode cX12_sum 57 = .ok (.iconst 2, 1) := by decide +kernel
theorem dX12_sum_58 : decode cX12_sum 58 = .ok (.if_icmp .ne 12, 3) := by decide +kernel
theorem dX12_sum_61 : decode cX12_sum 61 = .ok (.aload_n 0, 1) := by decide +kernel
theorem dX12_sum_62 : decode cX12_sum 62 = .ok (.getfield 191, 3) := by decide +kernel
theorem dX12_sum_65 : decode cX12_sum 65 = .ok (.iload_n 3, 1) := by decide +kernel
theorem dX12_sum_66 : decode cX12_sum 66 = .ok (.iaload, 1) := by decide +kernel
theorem dX12_sum_67 : decode cX12_sum 67 = .ok (.goto 13, 3) := by decide +kernel
theorem dX12_sum_70 : decode cX12_sum 70 = .ok (.iload_n 1, 1) := by decide +kernel
theorem dX12_sum_71 : decode cX12_sum 71 = .ok (.iconst 3, 1) := by decide +kernel
theorem dX12_sum_72 : decode cX12_sum 72 = .ok (.if_icmp .ne 7, 3) := by decide +kernel
theorem dX12_sum_75 : decode cX12_sum 75 = .ok (.iconst 1, 1) := by decide +kernel
theorem dX12_sum_76 : decode cX12_sum 76 = .ok (.goto 4, 3) := by decide +kernel
theorem dX12_sum_79 : decode cX12_sum 79 = .ok (.iconst 0, 1) := by decide +kernel
theorem dX12_sum_80 : decode cX12_sum 80 = .ok (.iadd, 1) := by decide +kernel
theorem dX12_sum_81 : decode cX12_sum 81 = .ok (.istore_n 2, 1) := by decide +kernel
theorem dX12_sum_82 : decode cX12_sum 82 = .ok (.goto 47, 3) := by decide +kernel
theorem dX12_sum_85 : decode cX12_sum 85 = .ok (.iload_n 2, 1) := by decide +kernel
theorem dX12_sum_86 : decode cX12_sum 86 = .ok (.iload_n 1, 1) := by decide +kernel
theorem dX12_sum_87 : decode cX12_sum 87 = .ok (.ifCond .ne 8, 3) := by decide +kernel
theorem dX12_sum_90 : decode cX12_sum 90 = .ok (.iload 4, 2) := by decide +kernel
theorem dX12_sum_92 : decode cX12_sum 92 = .ok (.goto 35, 3) := by decide +kernel
theorem dX12_sum_95 : decode cX12_sum 95 = .ok (.iload_n 1, 1) := by decide +kernel
theorem dX12_sum_96 : decode cX12_sum 96 = .ok (.iconst 1, 1) := by decide +kernel
theorem dX12_sum_97 : decode cX12_sum 97 = .ok (.if_icmp .ne 15, 3) := by decide +kernel
theorem dX12_sum_100 : decode cX12_sum 100 = .ok (.iload 4, 2) := by decide +kernel
theorem dX12_sum_102 : decode cX12_sum 102 = .ok (.aload_n 0, 1) := by decide +kernel
theorem dX12_sum_103 : decode cX12_sum 103 = .ok (.getfield 191, 3) := by decide +kernel
theorem dX12_sum_106 : decode cX12_sum 106 = .ok (.iload_n 3, 1) := by decide +kernel
theorem dX12_sum_107 : decode cX12_sum 107 = .ok (.iaload, 1) := by decide +kernel
theorem dX12_sum_108 : decode cX12_sum 108 = .ok (.isub, 1) := by decide +kernel
theorem dX12_sum_109 : decode cX12_sum 109 = .ok (.goto 18, 3) := by decide +kernel
theorem dX12_sum_112 : decode cX12_sum 112 = .ok (.iload_n 1, 1) := by decide +kernel
theorem dX12_sum_113 : decode cX12_sum 113 = .ok (.iconst 4, 1) := by decide +kernel
theorem dX12_sum_114 : decode cX12_sum 114 = .ok (.if_icmp .ne 12, 3) := by decide +kernel
theorem dX12_sum_117 : decode cX12_sum 117 = .ok (.aload_n 0, 1) := by decide +kernel
theorem dX12_sum_118 : decode cX12_sum 118 = .ok (.getfield 98, 3) := by decide +kernel
theorem dX12_sum_121 : decode cX12_sum 121 = .ok (.iload_n 3, 1) := by decide +kernel
theorem dX12_sum_122 : decode cX12_sum 122 = .ok (.iaload, 1) := by decide +kernel
theorem dX12_sum_123 : decode cX12_sum 123 = .ok (.goto 4, 3) := by decide +kernel
theorem dX12_sum_126 : decode cX12_sum 126 = .ok (.iconst 0, 1) := by decide +kernel
theorem dX12_sum_127 : decode cX12_sum 127 = .ok (.iadd, 1) := by decide +kernel
theorem dX12_sum_128 : decode cX12_sum 128 = .ok (.istore_n 2, 1) := by decide +kernel
theorem dX12_sum_129 : decode cX12_sum 129 = .ok (.iinc 3 1, 3) := by decide +kernel
theorem dX12_sum_132 : decode cX12_sum 132 = .ok (.goto (-110), 3) := by decide +kernel
theorem dX12_sum_135 : decode cX12_sum 135 = .ok (.iload_n 2, 1) := by decide +kernel
theorem dX12_sum_136 : decode cX12_sum 136 = .ok (.ireturn, 1) := by decide +kernel
theorem dX12_without_0 : decode cX12_without 0 = .ok (.aload_n 0, 1) := by decide +kernel
theorem dX12_without_1 : decode cX12_without 1 = .ok (.iload_n 1, 1) := by decide +kernel
theorem dX12_without_2 : decode cX12_without 2 = .ok (.invokevirtual 318, 3) := by decide +kernel
theorem dX12_without_5 : decode cX12_without 5 = .ok (.ifCond .eq 10, 3) := by decide +kernel
theorem dX12_without_8 : decode cX12_without 8 = .ok (.aload_n 0, 1) := by decide +kernel
theorem dX12_without_9 : decode cX12_without 9 = .ok (.getfield 310, 3) := by decide +kernel
theorem dX12_without_12 : decode cX12_without 12 = .ok (.ifCond .ne 5, 3) := by decide +kernel
theorem dX12_without_15 : decode cX12_without 15 = .ok (.iconst (-1), 1) := by decide +kernel
theorem dX12_without_16 : decode cX12_without 16 = .ok (.ireturn, 1) := by decide +kernel
theorem dX12_without_17 : decode cX12_without 17 = .ok (.aload_n 0, 1) := by decide +kernel
theorem dX12_without_18 : decode cX12_without 18 = .ok (.iload_n 1, 1) := by decide +kernel
theorem dX12_without_19 : decode cX12_without 19 = .ok (.invokevirtual 360, 3) := by decide +kernel
theorem dX12_without_22 : decode cX12_without 22 = .ok (.istore_n 2, 1) := by decide +kernel
theorem dX12_without_23 : decode cX12_without 23 = .ok (.iconst 0, 1) := by decide +kernel
theorem dX12_without_24 : decode cX12_without 24 = .ok (.istore_n 3, 1) := by decide +kernel
theorem dX12_without_25 : decode cX12_without 25 = .ok (.iconst 0, 1) := by decide +kernel
theorem dX12_without_26 : decode cX12_without 26 = .ok (.istore 4, 2) := by decide +kernel
theorem dX12_without_28 : decode cX12_without 28 = .ok (.iload 4, 2) := by decide +kernel
theorem dX12_without_30 : decode cX12_without 30 = .ok (.aload_n 0, 1) := by decide +kernel
theorem dX12_without_31 : decode cX12_without 31 = .ok (.getfield 307, 3) := by decide +kernel
theorem dX12_without_34 : decode cX12_without 34 = .ok (.if_icmp .ge 23, 3) := by decide +kernel
theorem dX12_without_37 : decode cX12_without 37 = .ok (.iload_n 2, 1) := by decide +kernel
theorem dX12_without_38 : decode cX12_without 38 = .ok (.iconst (-1), 1) := by decide +kernel
theorem dX12_without_39 : decode cX12_without 39 = .ok (.if_icmp .eq 18, 3) := by decide +kernel
theorem dX12_without_42 : decode cX12_without 42 = .ok (.iload_n 3, 1) := by decide +kernel
theorem dX12_without_43 : decode cX12_without 43 = .ok (.aload_n 0, 1) := by decide +kernel
theorem dX12_without_44 : decode cX12_without 44 = .ok (.iload 4, 2) := by decide +kernel
theorem dX12_without_46 : decode cX12_without 46 = .ok (.invokevirtual 363, 3) := by decide +kernel
theorem dX12_without_49 : decode cX12_without 49 = .ok (.iadd, 1) := by decide +kernel
theorem dX12_without_50 : decode cX12_without 50 = .ok (.istore_n 3, 1) := by decide +kernel
theorem dX12_without_51 : decode cX12_without 51 = .ok (.iinc 4 1, 3) := by decide +kernel
theorem dX12_without_54 : decode cX12_without 54 = .ok (.goto (-26), 3) := by decide +kernel
theorem dX12_without_57 : decode cX12_without 57 = .ok (.iload_n 3, 1) := by decide +kernel
theorem dX12_without_58 : decode cX12_without 58 = .ok (.ireturn, 1) := by decide +kernel
theorem dX12_load_0 : decode cX12_load 0 = .ok (.iload_n 1, 1) := by decide +kernel
theorem dX12_load_1 : decode cX12_load 1 = .ok (.ifCond .lt 18, 3) := by decide +kernel
theorem dX12_load_4 : decode cX12_load 4 = .ok (.iload_n 1, 1) := by decide +kernel
theorem dX12_load_5 : decode cX12_load 5 = .ok (.aload_n 0, 1) := by decide +kernel
theorem dX12_load_6 : decode cX12_load 6 = .ok (.getfield 321, 3) := by decide +kernel
theorem dX12_load_9 : decode cX12_load 9 = .ok (.if_icmp .ge 10, 3) := by decide +kernel
theorem dX12_load_12 : decode cX12_load 12 = .ok (.aload_n 0, 1) := by decide +kernel
theorem dX12_load_13 : decode cX12_load 13 = .ok (.getfield 310, 3) := by decide +kernel
theorem dX12_load_16 : decode cX12_load 16 = .ok (.ifCond .ne 5, 3) := by decide +kernel
theorem dX12_load_19 : decode cX12_load 19 = .ok (.iconst (-1), 1) := by decide +kernel
theorem dX12_load_20 : decode cX12_load 20 = .ok (.ireturn, 1) := by decide +kernel
theorem dX12_load_21 : decode cX12_load 21 = .ok (.aload_n 0, 1) := by decide +kernel
theorem dX12_load_22 : decode cX12_load 22 = .ok (.invokevirtual 372, 3) := by decide +kernel
theorem dX12_load_25 : decode cX12_load 25 = .ok (.iconst 0, 1) := by decide +kernel
theorem dX12_load_26 : decode cX12_load 26 = .ok (.istore_n 3, 1) := by decide +kernel
theorem dX12_load_27 : decode cX12_load 27 = .ok (.iconst 0, 1) := by decide +kernel
theorem dX12_load_28 : decode cX12_load 28 = .ok (.istore 4, 2) := by decide +kernel
theorem dX12_load_30 : decode cX12_load 30 = .ok (.iconst 0, 1) := by decide +kernel
theorem dX12_load_31 : decode cX12_load 31 = .ok (.istore 5, 2) := by decide +kernel
theorem dX12_load_33 : decode cX12_load 33 = .ok (.iload 5, 2) := by decide +kernel
theorem dX12_load_35 : decode cX12_load 35 = .ok (.aload_n 0, 1) := by decide +kernel
theorem dX12_load_36 : decode cX12_load 36 = .ok (.getfield 307, 3) := by decide +kernel
theorem dX12_load_39 : decode cX12_load 39 = .ok (.if_icmp .ge 48, 3) := by decide +kernel
theorem dX12_load_42 : decode cX12_load 42 = .ok (.aload_n 0, 1) := by decide +kernel
theorem dX12_load_43 : decode cX12_load 43 = .ok (.getfield 194, 3) := by decide +kernel
theorem dX12_load_46 : decode cX12_load 46 = .ok (.iload 5, 2) := by decide +kernel
theorem dX12_load_48 : decode cX12_load 48 = .ok (.iaload, 1) := by decide +kernel
theorem dX12_load_49 : decode cX12_load 49 = .ok (.iload_n 1, 1) := by decide +kernel
theorem dX12_load_50 : decode cX12_load 50 = .ok (.if_icmp .eq 6, 3) := by decide +kernel
theorem dX12_load_53 : decode cX12_load 53 = .ok (.goto 28, 3) := by decide +kernel
theorem dX12_load_56 : decode cX12_load 56 = .ok (.iload_n 2, 1) := by decide +kernel
theorem dX12_load_57 : decode cX12_load 57 = .ok (.bipush 10, 2) := by decide +kernel
theorem dX12_load_59 : decode cX12_load 59 = .ok (.iload 4, 2) := by decide +kernel
theorem dX12_load_61 : decode cX12_load 61 = .ok (.iadd, 1) := by decide +kernel
theorem dX12_load_62 : decode cX12_load 62 = .ok (.if_icmp .ne 6, 3) := by decide +kernel
theorem dX12_load_65 : decode cX12_load 65 = .ok (.iload 5, 2) := by decide +kernel
theorem dX12_load_67 : decode cX12_load 67 = .ok (.ireturn, 1) := by decide +kernel
theorem dX12_load_68 : decode cX12_load 68 = .ok (.iload_n 3, 1) := by decide +kernel
theorem dX12_load_69 : decode cX12_load 69 = .ok (.aload_n 0, 1) := by decide +kernel
theorem dX12_load_70 : decode cX12_load 70 = .ok (.getfield 98, 3) := by decide +kernel
theorem dX12_load_73 : decode cX12_load 73 = .ok (.iload 5, 2) := by decide +kernel
theorem dX12_load_75 : decode cX12_load 75 = .ok (.iaload, 1) := by decide +kernel
theorem dX12_load_76 : decode cX12_load 76 = .ok (.iadd, 1) := by decide +kernel
theorem dX12_load_77 : decode cX12_load 77 = .ok (.istore_n 3, 1) := by decide +kernel
theorem dX12_load_78 : decode cX12_load 78 = .ok (.iinc 4 1, 3) := by decide +kernel
theorem dX12_load_81 : decode cX12_load 81 = .ok (.iinc 5 1, 3) := by decide +kernel
theorem dX12_load_84 : decode cX12_load 84 = .ok (.goto (-51), 3) := by decide +kernel
theorem dX12_load_87 : decode cX12_load 87 = .ok (.iload_n 2, 1) := by decide +kernel
theorem dX12_load_88 : decode cX12_load 88 = .ok (.ifCond .ne 7, 3) := by decide +kernel
theorem dX12_load_91 : decode cX12_load 91 = .ok (.iload_n 3, 1) := by decide +kernel
theorem dX12_load_92 : decode cX12_load 92 = .ok (.goto 14, 3) := by decide +kernel
theorem dX12_load_95 : decode cX12_load 95 = .ok (.iload_n 2, 1) := by decide +kernel
theorem dX12_load_96 : decode cX12_load 96 = .ok (.iconst 1, 1) := by decide +kernel
theorem dX12_load_97 : decode cX12_load 97 = .ok (.if_icmp .ne 8, 3) := by decide +kernel
theorem dX12_load_100 : decode cX12_load 100 = .ok (.iload 4, 2) := by decide +kernel
theorem dX12_load_102 : decode cX12_load 102 = .ok (.goto 4, 3) := by decide +kernel
theorem dX12_load_105 : decode cX12_load 105 = .ok (.iconst (-1), 1) := by decide +kernel
theorem dX12_load_106 : decode cX12_load 106 = .ok (.ireturn, 1) := by decide +kernel
theorem dX12_stays_0 : decode cX12_stays 0 = .ok (.iload_n 1, 1) := by decide +kernel
theorem dX12_stays_1 : decode cX12_stays 1 = .ok (.ifCond .lt 15, 3) := by decide +kernel
theorem dX12_stays_4 : decode cX12_stays 4 = .ok (.iload_n 1, 1) := by decide +kernel
theorem dX12_stays_5 : decode cX12_stays 5 = .ok (.iconst 3, 1) := by decide +kernel
theorem dX12_stays_6 : decode cX12_stays 6 = .ok (.if_icmp .gt 10, 3) := by decide +kernel
theorem dX12_stays_9 : decode cX12_stays 9 = .ok (.aload_n 0, 1) := by decide +kernel
theorem dX12_stays_10 : decode cX12_stays 10 = .ok (.getfield 310, 3) := by decide +kernel
theorem dX12_stays_13 : decode cX12_stays 13 = .ok (.ifCond .ne 5, 3) := by decide +kernel
theorem dX12_stays_16 : decode cX12_stays 16 = .ok (.iconst (-1), 1) := by decide +kernel
theorem dX12_stays_17 : decode cX12_stays 17 = .ok (.ireturn, 1) := by decide +kernel
theorem dX12_stays_18 : decode cX12_stays 18 = .ok (.aload_n 0, 1) := by decide +kernel
theorem dX12_stays_19 : decode cX12_stays 19 = .ok (.invokevirtual 372, 3) := by decide +kernel
theorem dX12_stays_22 : decode cX12_stays 22 = .ok (.iconst 0, 1) := by decide +kernel
theorem dX12_stays_23 : decode cX12_stays 23 = .ok (.istore_n 2, 1) := by decide +kernel
theorem dX12_stays_24 : decode cX12_stays 24 = .ok (.iconst 0, 1) := by decide +kernel
theorem dX12_stays_25 : decode cX12_stays 25 = .ok (.istore_n 3, 1) := by decide +kernel
theorem dX12_stays_26 : decode cX12_stays 26 = .ok (.iload_n 3, 1) := by decide +kernel
theorem dX12_stays_27 : decode cX12_stays 27 = .ok (.aload_n 0, 1) := by decide +kernel
theorem dX12_stays_28 : decode cX12_stays 28 = .ok (.getfield 307, 3) := by decide +kernel
theorem dX12_stays_31 : decode cX12_stays 31 = .ok (.if_icmp .ge 53, 3) := by decide +kernel
theorem dX12_stays_34 : decode cX12_stays 34 = .ok (.aload_n 0, 1) := by decide +kernel
theorem dX12_stays_35 : decode cX12_stays 35 = .ok (.getfield 173, 3) := by decide +kernel
theorem dX12_stays_38 : decode cX12_stays 38 = .ok (.iload_n 3, 1) := by decide +kernel
theorem dX12_stays_39 : decode cX12_stays 39 = .ok (.iaload, 1) := by decide +kernel
theorem dX12_stays_40 : decode cX12_stays 40 = .ok (.iconst (-1), 1) := by decide +kernel
theorem dX12_stays_41 : decode cX12_stays 41 = .ok (.if_icmp .eq 37, 3) := by decide +kernel
theorem dX12_stays_44 : decode cX12_stays 44 = .ok (.aload_n 0, 1) := by decide +kernel
theorem dX12_stays_45 : decode cX12_stays 45 = .ok (.getfield 104, 3) := by decide +kernel
theorem dX12_stays_48 : decode cX12_stays 48 = .ok (.aload_n 0, 1) := by decide +kernel
theorem dX12_stays_49 : decode cX12_stays 49 = .ok (.getfield 173, 3) := by decide +kernel
theorem dX12_stays_52 : decode cX12_stays 52 = .ok (.iload_n 3, 1) := by decide +kernel
theorem dX12_stays_53 : decode cX12_stays 53 = .ok (.iaload, 1) := by decide +kernel
theorem dX12_stays_54 : decode cX12_stays 54 = .ok (.iaload, 1) := by decide +kernel
theorem dX12_stays_55 : decode cX12_stays 55 = .ok (.iload_n 1, 1) := by decide +kernel
theorem dX12_stays_56 : decode cX12_stays 56 = .ok (.if_icmp .ne 22, 3) := by decide +kernel
theorem dX12_stays_59 : decode cX12_stays 59 = .ok (.aload_n 0, 1) := by decide +kernel
theorem dX12_stays_60 : decode cX12_stays 60 = .ok (.getfield 194, 3) := by decide +kernel
theorem dX12_stays_63 : decode cX12_stays 63 = .ok (.iload_n 3, 1) := by decide +kernel
theorem dX12_stays_64 : decode cX12_stays 64 = .ok (.iaload, 1) := by decide +kernel
theorem dX12_stays_65 : decode cX12_stays 65 = .ok (.iconst (-1), 1) := by decide +kernel
theorem dX12_stays_66 : decode cX12_stays 66 = .ok (.if_icmp .ne 12, 3) := by decide +kernel
theorem dX12_stays_69 : decode cX12_stays 69 = .ok (.iload_n 2, 1) := by decide +kernel
theorem dX12_stays_70 : decode cX12_stays 70 = .ok (.aload_n 0, 1) := by decide +kernel
theorem dX12_stays_71 : decode cX12_stays 71 = .ok (.getfield 98, 3) := by decide +kernel
theorem dX12_stays_74 : decode cX12_stays 74 = .ok (.iload_n 3, 1) := by decide +kernel
theorem dX12_stays_75 : decode cX12_stays 75 = .ok (.iaload, 1) := by decide +kernel
theorem dX12_stays_76 : decode cX12_stays 76 = .ok (.iadd, 1) := by decide +kernel
theorem dX12_stays_77 : decode cX12_stays 77 = .ok (.istore_n 2, 1) := by decide +kernel
theorem dX12_stays_78 : decode cX12_stays 78 = .ok (.iinc 3 1, 3) := by decide +kernel
theorem dX12_stays_81 : decode cX12_stays 81 = .ok (.goto (-55), 3) := by decide +kernel
theorem dX12_stays_84 : decode cX12_stays 84 = .ok (.iload_n 2, 1) := by decide +kernel
theorem dX12_stays_85 : decode cX12_stays 85 = .ok (.ireturn, 1) := by decide +kernel
theorem dX12_count_0 : decode cX12_count 0 = .ok (.iload_n 1, 1) := by decide +kernel
theorem dX12_count_1 : decode cX12_count 1 = .ok (.tableswitch 93 0 6 #[43, 48, 53, 58, 63, 76, 88], 43) := by decide +kernel
theorem dX12_count_44 : decode cX12_count 44 = .ok (.aload_n 0, 1) := by decide +kernel
theorem dX12_count_45 : decode cX12_count 45 = .ok (.getfield 307, 3) := by decide +kernel
theorem dX12_count_48 : decode cX12_count 48 = .ok (.ireturn, 1) := by decide +kernel
theorem dX12_count_49 : decode cX12_count 49 = .ok (.aload_n 0, 1) := by decide +kernel
theorem dX12_count_50 : decode cX12_count 50 = .ok (.getfield 269, 3) := by decide +kernel
theorem dX12_count_53 : decode cX12_count 53 = .ok (.ireturn, 1) := by decide +kernel
theorem dX12_count_54 : decode cX12_count 54 = .ok (.aload_n 0, 1) := by decide +kernel
theorem dX12_count_55 : decode cX12_count 55 = .ok (.getfield 321, 3) := by decide +kernel
theorem dX12_count_58 : decode cX12_count 58 = .ok (.ireturn, 1) := by decide +kernel
theorem dX12_count_59 : decode cX12_count 59 = .ok (.aload_n 0, 1) := by decide +kernel
theorem dX12_count_60 : decode cX12_count 60 = .ok (.getfield 366, 3) := by decide +kernel
theorem dX12_count_63 : decode cX12_count 63 = .ok (.ireturn, 1) := by decide +kernel
theorem dX12_count_64 : decode cX12_count 64 = .ok (.aload_n 0, 1) := by decide +kernel
theorem dX12_count_65 : decode cX12_count 65 = .ok (.getfield 310, 3) := by decide +kernel
theorem dX12_count_68 : decode cX12_count 68 = .ok (.ifCond .eq 7, 3) := by decide +kernel
theorem dX12_count_71 : decode cX12_count 71 = .ok (.iconst 1, 1) := by decide +kernel
theorem dX12_count_72 : decode cX12_count 72 = .ok (.goto 4, 3) := by decide +kernel
theorem dX12_count_75 : decode cX12_count 75 = .ok (.iconst 0, 1) := by decide +kernel
theorem dX12_count_76 : decode cX12_count 76 = .ok (.ireturn, 1) := by decide +kernel
theorem dX12_count_77 : decode cX12_count 77 = .ok (.aload_n 0, 1) := by decide +kernel
theorem dX12_count_78 : decode cX12_count 78 = .ok (.getfield 43, 3) := by decide +kernel
theorem dX12_count_81 : decode cX12_count 81 = .ok (.aload_n 0, 1) := by decide +kernel
theorem dX12_count_82 : decode cX12_count 82 = .ok (.getfield 40, 3) := by decide +kernel
theorem dX12_count_85 : decode cX12_count 85 = .ok (.iconst 0, 1) := by decide +kernel
theorem dX12_count_86 : decode cX12_count 86 = .ok (.iaload, 1) := by decide +kernel
theorem dX12_count_87 : decode cX12_count 87 = .ok (.iaload, 1) := by decide +kernel
theorem dX12_count_88 : decode cX12_count 88 = .ok (.ireturn, 1) := by decide +kernel
theorem dX12_count_89 : decode cX12_count 89 = .ok (.aload_n 0, 1) := by decide +kernel
theorem dX12_count_90 : decode cX12_count 90 = .ok (.getfield 207, 3) := by decide +kernel
theorem dX12_count_93 : decode cX12_count 93 = .ok (.ireturn, 1) := by decide +kernel
theorem dX12_count_94 : decode cX12_count 94 = .ok (.iconst (-1), 1) := by decide +kernel
theorem dX12_count_95 : decode cX12_count 95 = .ok (.ireturn, 1) := by decide +kernel
theorem dJ9_max_7cf53_0 : decode cJ9_max_7cf53 0 = .ok (.iload_n 0, 1) := by decide +kernel
theorem dJ9_max_7cf53_1 : decode cJ9_max_7cf53 1 = .ok (.iload_n 1, 1) := by decide +kernel
theorem dJ9_max_7cf53_2 : decode cJ9_max_7cf53 2 = .ok (.if_icmp .lt 7, 3) := by decide +kernel
theorem dJ9_max_7cf53_5 : decode cJ9_max_7cf53 5 = .ok (.iload_n 0, 1) := by decide +kernel
theorem dJ9_max_7cf53_6 : decode cJ9_max_7cf53 6 = .ok (.goto 4, 3) := by decide +kernel
theorem dJ9_max_7cf53_9 : decode cJ9_max_7cf53 9 = .ok (.iload_n 1, 1) := by decide +kernel
theorem dJ9_max_7cf53_10 : decode cJ9_max_7cf53 10 = .ok (.ireturn, 1) := by decide +kernel
theorem dJ9_min_7cf53_0 : decode cJ9_min_7cf53 0 = .ok (.iload_n 0, 1) := by decide +kernel
theorem dJ9_min_7cf53_1 : decode cJ9_min_7cf53 1 = .ok (.iload_n 1, 1) := by decide +kernel
theorem dJ9_min_7cf53_2 : decode cJ9_min_7cf53 2 = .ok (.if_icmp .gt 7, 3) := by decide +kernel
theorem dJ9_min_7cf53_5 : decode cJ9_min_7cf53 5 = .ok (.iload_n 0, 1) := by decide +kernel
theorem dJ9_min_7cf53_6 : decode cJ9_min_7cf53 6 = .ok (.goto 4, 3) := by decide +kernel
theorem dJ9_min_7cf53_9 : decode cJ9_min_7cf53 9 = .ok (.iload_n 1, 1) := by decide +kernel
theorem dJ9_min_7cf53_10 : decode cJ9_min_7cf53 10 = .ok (.ireturn, 1) := by decide +kernel
theorem dJ0_length_8abf5_0 : decode cJ0_length_8abf5 0 = .ok (.aload_n 0, 1) := by decide +kernel
theorem dJ0_length_8abf5_1 : decode cJ0_length_8abf5 1 = .ok (.getfield 9, 3) := by decide +kernel
theorem dJ0_length_8abf5_4 : decode cJ0_length_8abf5 4 = .ok (.arraylength, 1) := by decide +kernel
theorem dJ0_length_8abf5_5 : decode cJ0_length_8abf5 5 = .ok (.aload_n 0, 1) := by decide +kernel
theorem dJ0_length_8abf5_6 : decode cJ0_length_8abf5 6 = .ok (.invokevirtual 335, 3) := by decide +kernel
theorem dJ0_length_8abf5_9 : decode cJ0_length_8abf5 9 = .ok (.ishr, 1) := by decide +kernel
theorem dJ0_length_8abf5_10 : decode cJ0_length_8abf5 10 = .ok (.ireturn, 1) := by decide +kernel
theorem dJ0_charAt_5068e_0 : decode cJ0_charAt_5068e 0 = .ok (.aload_n 0, 1) := by decide +kernel
theorem dJ0_charAt_5068e_1 : decode cJ0_charAt_5068e 1 = .ok (.invokevirtual 492, 3) := by decide +kernel
theorem dJ0_charAt_5068e_4 : decode cJ0_charAt_5068e 4 = .ok (.ifCond .eq 12, 3) := by decide +kernel
theorem dJ0_charAt_5068e_7 : decode cJ0_charAt_5068e 7 = .ok (.aload_n 0, 1) := by decide +kernel
theorem dJ0_charAt_5068e_8 : decode cJ0_charAt_5068e 8 = .ok (.getfield 9, 3) := by decide +kernel
theorem dJ0_charAt_5068e_11 : decode cJ0_charAt_5068e 11 = .ok (.iload_n 1, 1) := by decide +kernel
theorem dJ0_charAt_5068e_12 : decode cJ0_charAt_5068e 12 = .ok (.invokestatic 495, 3) := by decide +kernel
theorem dJ0_charAt_5068e_15 : decode cJ0_charAt_5068e 15 = .ok (.ireturn, 1) := by decide +kernel
theorem dJ0_charAt_5068e_16 : decode cJ0_charAt_5068e 16 = .ok (.aload_n 0, 1) := by decide +kernel
theorem dJ0_charAt_5068e_17 : decode cJ0_charAt_5068e 17 = .ok (.getfield 9, 3) := by decide +kernel
theorem dJ0_charAt_5068e_20 : decode cJ0_charAt_5068e 20 = .ok (.iload_n 1, 1) := by decide +kernel
theorem dJ0_charAt_5068e_21 : decode cJ0_charAt_5068e 21 = .ok (.invokestatic 498, 3) := by decide +kernel
theorem dJ0_charAt_5068e_24 : decode cJ0_charAt_5068e 24 = .ok (.ireturn, 1) := by decide +kernel
theorem dJ0_coder_7d493_0 : decode cJ0_coder_7d493 0 = .ok (.getstatic 38, 3) := by decide +kernel
theorem dJ0_coder_7d493_3 : decode cJ0_coder_7d493 3 = .ok (.ifCond .eq 10, 3) := by decide +kernel
theorem dJ0_coder_7d493_6 : decode cJ0_coder_7d493 6 = .ok (.aload_n 0, 1) := by decide +kernel
theorem dJ0_coder_7d493_7 : decode cJ0_coder_7d493 7 = .ok (.getfield 15, 3) := by decide +kernel
theorem dJ0_coder_7d493_10 : decode cJ0_coder_7d493 10 = .ok (.goto 4, 3) := by decide +kernel
theorem dJ0_coder_7d493_13 : decode cJ0_coder_7d493 13 = .ok (.iconst 1, 1) := by decide +kernel
theorem dJ0_coder_7d493_14 : decode cJ0_coder_7d493 14 = .ok (.ireturn, 1) := by decide +kernel
theorem dJ0_isLatin1_aae02_0 : decode cJ0_isLatin1_aae02 0 = .ok (.getstatic 38, 3) := by decide +kernel
theorem dJ0_isLatin1_aae02_3 : decode cJ0_isLatin1_aae02 3 = .ok (.ifCond .eq 14, 3) := by decide +kernel
theorem dJ0_isLatin1_aae02_6 : decode cJ0_isLatin1_aae02 6 = .ok (.aload_n 0, 1) := by decide +kernel
theorem dJ0_isLatin1_aae02_7 : decode cJ0_isLatin1_aae02 7 = .ok (.getfield 15, 3) := by decide +kernel
theorem dJ0_isLatin1_aae02_10 : decode cJ0_isLatin1_aae02 10 = .ok (.ifCond .ne 7, 3) := by decide +kernel
theorem dJ0_isLatin1_aae02_13 : decode cJ0_isLatin1_aae02 13 = .ok (.iconst 1, 1) := by decide +kernel
theorem dJ0_isLatin1_aae02_14 : decode cJ0_isLatin1_aae02 14 = .ok (.goto 4, 3) := by decide +kernel
theorem dJ0_isLatin1_aae02_17 : decode cJ0_isLatin1_aae02 17 = .ok (.iconst 0, 1) := by decide +kernel
theorem dJ0_isLatin1_aae02_18 : decode cJ0_isLatin1_aae02 18 = .ok (.ireturn, 1) := by decide +kernel
theorem dJ0_checkIndex_df160_0 : decode cJ0_checkIndex_df160 0 = .ok (.iload_n 0, 1) := by decide +kernel
theorem dJ0_checkIndex_df160_1 : decode cJ0_checkIndex_df160 1 = .ok (.iload_n 1, 1) := by decide +kernel
theorem dJ0_checkIndex_df160_2 : decode cJ0_checkIndex_df160 2 = .ok (.getstatic 1053, 3) := by decide +kernel
theorem dJ0_checkIndex_df160_5 : decode cJ0_checkIndex_df160 5 = .ok (.invokestatic 1059, 3) := by decide +kernel
theorem dJ0_checkIndex_df160_8 : decode cJ0_checkIndex_df160 8 = .ok (.pop, 1) := by decide +kernel
theorem dJ0_checkIndex_df160_9 : decode cJ0_checkIndex_df160 9 = .ok (.return_, 1) := by decide +kernel
theorem dJ1_charAt_3b067_0 : decode cJ1_charAt_3b067 0 = .ok (.iload_n 1, 1) := by decide +kernel
theorem dJ1_charAt_3b067_1 : decode cJ1_charAt_3b067 1 = .ok (.aload_n 0, 1) := by decide +kernel
theorem dJ1_charAt_3b067_2 : decode cJ1_charAt_3b067 2 = .ok (.arraylength, 1) := by decide +kernel
theorem dJ1_charAt_3b067_3 : decode cJ1_charAt_3b067 3 = .ok (.invokestatic 9, 3) := by decide +kernel
theorem dJ1_charAt_3b067_6 : decode cJ1_charAt_3b067 6 = .ok (.aload_n 0, 1) := by decide +kernel
theorem dJ1_charAt_3b067_7 : decode cJ1_charAt_3b067 7 = .ok (.iload_n 1, 1) := by decide +kernel
theorem dJ1_charAt_3b067_8 : decode cJ1_charAt_3b067 8 = .ok (.baload, 1) := by decide +kernel
theorem dJ1_charAt_3b067_9 : decode cJ1_charAt_3b067 9 = .ok (.sipush 255, 3) := by decide +kernel
theorem dJ1_charAt_3b067_12 : decode cJ1_charAt_3b067 12 = .ok (.iand, 1) := by decide +kernel
theorem dJ1_charAt_3b067_13 : decode cJ1_charAt_3b067 13 = .ok (.i2c, 1) := by decide +kernel
theorem dJ1_charAt_3b067_14 : decode cJ1_charAt_3b067 14 = .ok (.ireturn, 1) := by decide +kernel
theorem dJ2_getChar_3b067_0 : decode cJ2_getChar_3b067 0 = .ok (.getstatic 44, 3) := by decide +kernel
theorem dJ2_getChar_3b067_3 : decode cJ2_getChar_3b067 3 = .ok (.ifCond .ne 25, 3) := by decide +kernel
theorem dJ2_getChar_3b067_6 : decode cJ2_getChar_3b067 6 = .ok (.iload_n 1, 1) := by decide +kernel
theorem dJ2_getChar_3b067_7 : decode cJ2_getChar_3b067 7 = .ok (.ifCond .lt 11, 3) := by decide +kernel
theorem dJ2_getChar_3b067_10 : decode cJ2_getChar_3b067 10 = .ok (.iload_n 1, 1) := by decide +kernel
theorem dJ2_getChar_3b067_11 : decode cJ2_getChar_3b067 11 = .ok (.aload_n 0, 1) := by decide +kernel
theorem dJ2_getChar_3b067_12 : decode cJ2_getChar_3b067 12 = .ok (.invokestatic 48, 3) := by decide +kernel
theorem dJ2_getChar_3b067_15 : decode cJ2_getChar_3b067 15 = .ok (.if_icmp .lt 13, 3) := by decide +kernel
theorem dJ2_getChar_3b067_18 : decode cJ2_getChar_3b067 18 = .ok (.new 52, 3) := by decide +kernel
theorem dJ2_getChar_3b067_21 : decode cJ2_getChar_3b067 21 = .ok (.dup, 1) := by decide +kernel
theorem dJ2_getChar_3b067_22 : decode cJ2_getChar_3b067 22 = .ok (.ldc 54, 2) := by decide +kernel
theorem dJ2_getChar_3b067_24 : decode cJ2_getChar_3b067 24 = .ok (.invokespecial 56, 3) := by decide +kernel
theorem dJ2_getChar_3b067_27 : decode cJ2_getChar_3b067 27 = .ok (.athrow, 1) := by decide +kernel
theorem dJ2_getChar_3b067_28 : decode cJ2_getChar_3b067 28 = .ok (.iload_n 1, 1) := by decide +kernel
theorem dJ2_getChar_3b067_29 : decode cJ2_getChar_3b067 29 = .ok (.iconst 1, 1) := by decide +kernel
theorem dJ2_getChar_3b067_30 : decode cJ2_getChar_3b067 30 = .ok (.ishl, 1) := by decide +kernel
theorem dJ2_getChar_3b067_31 : decode cJ2_getChar_3b067 31 = .ok (.istore_n 1, 1) := by decide +kernel
theorem dJ2_getChar_3b067_32 : decode cJ2_getChar_3b067 32 = .ok (.aload_n 0, 1) := by decide +kernel
theorem dJ2_getChar_3b067_33 : decode cJ2_getChar_3b067 33 = .ok (.iload_n 1, 1) := by decide +kernel
theorem dJ2_getChar_3b067_34 : decode cJ2_getChar_3b067 34 = .ok (.iinc 1 1, 3) := by decide +kernel
theorem dJ2_getChar_3b067_37 : decode cJ2_getChar_3b067 37 = .ok (.baload, 1) := by decide +kernel
theorem dJ2_getChar_3b067_38 : decode cJ2_getChar_3b067 38 = .ok (.sipush 255, 3) := by decide +kernel
theorem dJ2_getChar_3b067_41 : decode cJ2_getChar_3b067 41 = .ok (.iand, 1) := by decide +kernel
theorem dJ2_getChar_3b067_42 : decode cJ2_getChar_3b067 42 = .ok (.getstatic 59, 3) := by decide +kernel
theorem dJ2_getChar_3b067_45 : decode cJ2_getChar_3b067 45 = .ok (.ishl, 1) := by decide +kernel
theorem dJ2_getChar_3b067_46 : decode cJ2_getChar_3b067 46 = .ok (.aload_n 0, 1) := by decide +kernel
theorem dJ2_getChar_3b067_47 : decode cJ2_getChar_3b067 47 = .ok (.iload_n 1, 1) := by decide +kernel
theorem dJ2_getChar_3b067_48 : decode cJ2_getChar_3b067 48 = .ok (.baload, 1) := by decide +kernel
theorem dJ2_getChar_3b067_49 : decode cJ2_getChar_3b067 49 = .ok (.sipush 255, 3) := by decide +kernel
theorem dJ2_getChar_3b067_52 : decode cJ2_getChar_3b067 52 = .ok (.iand, 1) := by decide +kernel
theorem dJ2_getChar_3b067_53 : decode cJ2_getChar_3b067 53 = .ok (.getstatic 63, 3) := by decide +kernel
theorem dJ2_getChar_3b067_56 : decode cJ2_getChar_3b067 56 = .ok (.ishl, 1) := by decide +kernel
theorem dJ2_getChar_3b067_57 : decode cJ2_getChar_3b067 57 = .ok (.ior, 1) := by decide +kernel
theorem dJ2_getChar_3b067_58 : decode cJ2_getChar_3b067 58 = .ok (.i2c, 1) := by decide +kernel
theorem dJ2_getChar_3b067_59 : decode cJ2_getChar_3b067 59 = .ok (.ireturn, 1) := by decide +kernel
theorem dJ2_length_9d52b_0 : decode cJ2_length_9d52b 0 = .ok (.aload_n 0, 1) := by decide +kernel
theorem dJ2_length_9d52b_1 : decode cJ2_length_9d52b 1 = .ok (.arraylength, 1) := by decide +kernel
theorem dJ2_length_9d52b_2 : decode cJ2_length_9d52b 2 = .ok (.iconst 1, 1) := by decide +kernel
theorem dJ2_length_9d52b_3 : decode cJ2_length_9d52b 3 = .ok (.ishr, 1) := by decide +kernel
theorem dJ2_length_9d52b_4 : decode cJ2_length_9d52b 4 = .ok (.ireturn, 1) := by decide +kernel
theorem dJ2_charAt_3b067_0 : decode cJ2_charAt_3b067 0 = .ok (.iload_n 1, 1) := by decide +kernel
theorem dJ2_charAt_3b067_1 : decode cJ2_charAt_3b067 1 = .ok (.aload_n 0, 1) := by decide +kernel
theorem dJ2_charAt_3b067_2 : decode cJ2_charAt_3b067 2 = .ok (.invokestatic 67, 3) := by decide +kernel
theorem dJ2_charAt_3b067_5 : decode cJ2_charAt_3b067 5 = .ok (.aload_n 0, 1) := by decide +kernel
theorem dJ2_charAt_3b067_6 : decode cJ2_charAt_3b067 6 = .ok (.iload_n 1, 1) := by decide +kernel
theorem dJ2_charAt_3b067_7 : decode cJ2_charAt_3b067 7 = .ok (.invokestatic 71, 3) := by decide +kernel
theorem dJ2_charAt_3b067_10 : decode cJ2_charAt_3b067 10 = .ok (.ireturn, 1) := by decide +kernel
theorem dJ2_checkIndex_2214a_0 : decode cJ2_checkIndex_2214a 0 = .ok (.iload_n 0, 1) := by decide +kernel
theorem dJ2_checkIndex_2214a_1 : decode cJ2_checkIndex_2214a 1 = .ok (.aload_n 1, 1) := by decide +kernel
theorem dJ2_checkIndex_2214a_2 : decode cJ2_checkIndex_2214a 2 = .ok (.invokestatic 48, 3) := by decide +kernel
theorem dJ2_checkIndex_2214a_5 : decode cJ2_checkIndex_2214a 5 = .ok (.invokestatic 414, 3) := by decide +kernel
theorem dJ2_checkIndex_2214a_8 : decode cJ2_checkIndex_2214a 8 = .ok (.return_, 1) := by decide +kernel
theorem dJ3_checkIndex_8e157_0 : decode cJ3_checkIndex_8e157 0 = .ok (.iload_n 0, 1) := by decide +kernel
theorem dJ3_checkIndex_8e157_1 : decode cJ3_checkIndex_8e157 1 = .ok (.ifCond .lt 8, 3) := by decide +kernel
theorem dJ3_checkIndex_8e157_4 : decode cJ3_checkIndex_8e157 4 = .ok (.iload_n 0, 1) := by decide +kernel
theorem dJ3_checkIndex_8e157_5 : decode cJ3_checkIndex_8e157 5 = .ok (.iload_n 1, 1) := by decide +kernel
theorem dJ3_checkIndex_8e157_6 : decode cJ3_checkIndex_8e157 6 = .ok (.if_icmp .lt 10, 3) := by decide +kernel
theorem dJ3_checkIndex_8e157_9 : decode cJ3_checkIndex_8e157 9 = .ok (.aload_n 2, 1) := by decide +kernel
theorem dJ3_checkIndex_8e157_10 : decode cJ3_checkIndex_8e157 10 = .ok (.iload_n 0, 1) := by decide +kernel
theorem dJ3_checkIndex_8e157_11 : decode cJ3_checkIndex_8e157 11 = .ok (.iload_n 1, 1) := by decide +kernel
theorem dJ3_checkIndex_8e157_12 : decode cJ3_checkIndex_8e157 12 = .ok (.invokestatic 95, 3) := by decide +kernel
theorem dJ3_checkIndex_8e157_15 : decode cJ3_checkIndex_8e157 15 = .ok (.athrow, 1) := by decide +kernel
theorem dJ3_checkIndex_8e157_16 : decode cJ3_checkIndex_8e157 16 = .ok (.iload_n 0, 1) := by decide +kernel
theorem dJ3_checkIndex_8e157_17 : decode cJ3_checkIndex_8e157 17 = .ok (.ireturn, 1) := by decide +kernel
theorem dL_law_0 : decode cL_law 0 = .ok (.new 7, 3) := by decide +kernel
theorem dL_law_3 : decode cL_law 3 = .ok (.dup, 1) := by decide +kernel
theorem dL_law_4 : decode cL_law 4 = .ok (.invokespecial 9, 3) := by decide +kernel
theorem dL_law_7 : decode cL_law 7 = .ok (.astore_n 1, 1) := by decide +kernel
theorem dL_law_8 : decode cL_law 8 = .ok (.new 10, 3) := by decide +kernel
theorem dL_law_11 : decode cL_law 11 = .ok (.dup, 1) := by decide +kernel
theorem dL_law_12 : decode cL_law 12 = .ok (.invokespecial 12, 3) := by decide +kernel
theorem dL_law_15 : decode cL_law 15 = .ok (.astore_n 2, 1) := by decide +kernel
theorem dL_law_16 : decode cL_law 16 = .ok (.iconst 0, 1) := by decide +kernel
theorem dL_law_17 : decode cL_law 17 = .ok (.istore_n 3, 1) := by decide +kernel
theorem dL_law_18 : decode cL_law 18 = .ok (.iload_n 3, 1) := by decide +kernel
theorem dL_law_19 : decode cL_law 19 = .ok (.aload_n 0, 1) := by decide +kernel
theorem dL_law_20 : decode cL_law 20 = .ok (.arraylength, 1) := by decide +kernel
theorem dL_law_21 : decode cL_law 21 = .ok (.bipush 6, 2) := by decide +kernel
theorem dL_law_23 : decode cL_law 23 = .ok (.isub, 1) := by decide +kernel
theorem dL_law_24 : decode cL_law 24 = .ok (.if_icmp .gt 747, 3) := by decide +kernel
theorem dL_law_27 : decode cL_law 27 = .ok (.aload_n 0, 1) := by decide +kernel
theorem dL_law_28 : decode cL_law 28 = .ok (.iload_n 3, 1) := by decide +kernel
theorem dL_law_29 : decode cL_law 29 = .ok (.iaload, 1) := by decide +kernel
theorem dL_law_30 : decode cL_law 30 = .ok (.bipush 31, 2) := by decide +kernel
theorem dL_law_32 : decode cL_law 32 = .ok (.iand, 1) := by decide +kernel
theorem dL_law_33 : decode cL_law 33 = .ok (.tableswitch 732 0 20 #[99, 162, 185, 208, 221, 284, 317, 360, 403, 416, 429, 462, 495, 528, 561, 584, 607, 630, 653, 686, 709], 99) := by decide +kernel
theorem dL_law_132 : decode cL_law 132 = .ok (.aload_n 1, 1) := by decide +kernel
theorem dL_law_133 : decode cL_law 133 = .ok (.aload_n 0, 1) := by decide +kernel
theorem dL_law_134 : decode cL_law 134 = .ok (.iload_n 3, 1) := by decide +kernel
theorem dL_law_135 : decode cL_law 135 = .ok (.iconst 1, 1) := by decide +kernel
theorem dL_law_136 : decode cL_law 136 = .ok (.iadd, 1) := by decide +kernel
theorem dL_law_137 : decode cL_law 137 = .ok (.iaload, 1) := by decide +kernel
theorem dL_law_138 : decode cL_law 138 = .ok (.aload_n 0, 1) := by decide +kernel
theorem dL_law_139 : decode cL_law 139 = .ok (.iload_n 3, 1) := by decide +kernel
theorem dL_law_140 : decode cL_law 140 = .ok (.iconst 2, 1) := by decide +kernel
theorem dL_law_141 : decode cL_law 141 = .ok (.iadd, 1) := by decide +kernel
theorem dL_law_142 : decode cL_law 142 = .ok (.iaload, 1) := by decide +kernel
theorem dL_law_143 : decode cL_law 143 = .ok (.aload_n 0, 1) := by decide +kernel
theorem dL_law_144 : decode cL_law 144 = .ok (.iload_n 3, 1) := by decide +kernel
theorem dL_law_145 : decode cL_law 145 = .ok (.iconst 3, 1) := by decide +kernel
theorem dL_law_146 : decode cL_law 146 = .ok (.iadd, 1) := by decide +kernel
theorem dL_law_147 : decode cL_law 147 = .ok (.iaload, 1) := by decide +kernel
theorem dL_law_148 : decode cL_law 148 = .ok (.aload_n 0, 1) := by decide +kernel
theorem dL_law_149 : decode cL_law 149 = .ok (.iload_n 3, 1) := by decide +kernel
theorem dL_law_150 : decode cL_law 150 = .ok (.iconst 4, 1) := by decide +kernel
theorem dL_law_151 : decode cL_law 151 = .ok (.iadd, 1) := by decide +kernel
theorem dL_law_152 : decode cL_law 152 = .ok (.iaload, 1) := by decide +kernel
theorem dL_law_153 : decode cL_law 153 = .ok (.aload_n 0, 1) := by decide +kernel
theorem dL_law_154 : decode cL_law 154 = .ok (.iload_n 3, 1) := by decide +kernel
theorem dL_law_155 : decode cL_law 155 = .ok (.iconst 5, 1) := by decide +kernel
theorem dL_law_156 : decode cL_law 156 = .ok (.iadd, 1) := by decide +kernel
theorem dL_law_157 : decode cL_law 157 = .ok (.iaload, 1) := by decide +kernel
theorem dL_law_158 : decode cL_law 158 = .ok (.invokevirtual 13, 3) := by decide +kernel
theorem dL_law_161 : decode cL_law 161 = .ok (.aload_n 2, 1) := by decide +kernel
theorem dL_law_162 : decode cL_law 162 = .ok (.aload_n 0, 1) := by decide +kernel
theorem dL_law_163 : decode cL_law 163 = .ok (.iload_n 3, 1) := by decide +kernel
theorem dL_law_164 : decode cL_law 164 = .ok (.iconst 1, 1) := by decide +kernel
theorem dL_law_165 : decode cL_law 165 = .ok (.iadd, 1) := by decide +kernel
theorem dL_law_166 : decode cL_law 166 = .ok (.iaload, 1) := by decide +kernel
theorem dL_law_167 : decode cL_law 167 = .ok (.aload_n 0, 1) := by decide +kernel
theorem dL_law_168 : decode cL_law 168 = .ok (.iload_n 3, 1) := by decide +kernel
theorem dL_law_169 : decode cL_law 169 = .ok (.iconst 2, 1) := by decide +kernel
theorem dL_law_170 : decode cL_law 170 = .ok (.iadd, 1) := by decide +kernel
theorem dL_law_171 : decode cL_law 171 = .ok (.iaload, 1) := by decide +kernel
theorem dL_law_172 : decode cL_law 172 = .ok (.aload_n 0, 1) := by decide +kernel
theorem dL_law_173 : decode cL_law 173 = .ok (.iload_n 3, 1) := by decide +kernel
theorem dL_law_174 : decode cL_law 174 = .ok (.iconst 3, 1) := by decide +kernel
theorem dL_law_175 : decode cL_law 175 = .ok (.iadd, 1) := by decide +kernel
theorem dL_law_176 : decode cL_law 176 = .ok (.iaload, 1) := by decide +kernel
theorem dL_law_177 : decode cL_law 177 = .ok (.aload_n 0, 1) := by decide +kernel
theorem dL_law_178 : decode cL_law 178 = .ok (.iload_n 3, 1) := by decide +kernel
theorem dL_law_179 : decode cL_law 179 = .ok (.iconst 4, 1) := by decide +kernel
theorem dL_law_180 : decode cL_law 180 = .ok (.iadd, 1) := by decide +kernel
theorem dL_law_181 : decode cL_law 181 = .ok (.iaload, 1) := by decide +kernel
theorem dL_law_182 : decode cL_law 182 = .ok (.aload_n 0, 1) := by decide +kernel
theorem dL_law_183 : decode cL_law 183 = .ok (.iload_n 3, 1) := by decide +kernel
theorem dL_law_184 : decode cL_law 184 = .ok (.iconst 5, 1) := by decide +kernel
theorem dL_law_185 : decode cL_law 185 = .ok (.iadd, 1) := by decide +kernel
theorem dL_law_186 : decode cL_law 186 = .ok (.iaload, 1) := by decide +kernel
theorem dL_law_187 : decode cL_law 187 = .ok (.invokevirtual 17, 3) := by decide +kernel
theorem dL_law_190 : decode cL_law 190 = .ok (.if_icmp .eq 575, 3) := by decide +kernel
theorem dL_law_193 : decode cL_law 193 = .ok (.iconst 0, 1) := by decide +kernel
theorem dL_law_194 : decode cL_law 194 = .ok (.ireturn, 1) := by decide +kernel
theorem dL_law_195 : decode cL_law 195 = .ok (.aload_n 1, 1) := by decide +kernel
theorem dL_law_196 : decode cL_law 196 = .ok (.aload_n 0, 1) := by decide +kernel
theorem dL_law_197 : decode cL_law 197 = .ok (.iload_n 3, 1) := by decide +kernel
theorem dL_law_198 : decode cL_law 198 = .ok (.iconst 1, 1) := by decide +kernel
theorem dL_law_199 : decode cL_law 199 = .ok (.iadd, 1) := by decide +kernel
theorem dL_law_200 : decode cL_law 200 = .ok (.iaload, 1) := by decide +kernel
theorem dL_law_201 : decode cL_law 201 = .ok (.invokevirtual 18, 3) := by decide +kernel
theorem dL_law_204 : decode cL_law 204 = .ok (.aload_n 2, 1) := by decide +kernel
theorem dL_law_205 : decode cL_law 205 = .ok (.aload_n 0, 1) := by decide +kernel
theorem dL_law_206 : decode cL_law 206 = .ok (.iload_n 3, 1) := by decide +kernel
theorem dL_law_207 : decode cL_law 207 = .ok (.iconst 1, 1) := by decide +kernel
theorem dL_law_208 : decode cL_law 208 = .ok (.iadd, 1) := by decide +kernel
theorem dL_law_209 : decode cL_law 209 = .ok (.iaload, 1) := by decide +kernel
theorem dL_law_210 : decode cL_law 210 = .ok (.invokevirtual 22, 3) := by decide +kernel
theorem dL_law_213 : decode cL_law 213 = .ok (.if_icmp .eq 552, 3) := by decide +kernel
theorem dL_law_216 : decode cL_law 216 = .ok (.iconst 0, 1) := by decide +kernel
theorem dL_law_217 : decode cL_law 217 = .ok (.ireturn, 1) := by decide +kernel
theorem dL_law_218 : decode cL_law 218 = .ok (.aload_n 1, 1) := by decide +kernel
theorem dL_law_219 : decode cL_law 219 = .ok (.aload_n 0, 1) := by decide +kernel
