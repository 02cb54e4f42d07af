theorem dL_cell_0 : decode cL_cell 0 = .ok (.iload_n 1, 1) := by decide +kernel
theorem dL_cell_1 : decode cL_cell 1 = .ok (.aload_n 0, 1) := by decide +kernel
theorem dL_cell_2 : decode cL_cell 2 = .ok (.arraylength, 1) := by decide +kernel
theorem dL_cell_3 : decode cL_cell 3 = .ok (.if_icmp .ge 9, 3) := by decide +kernel
theorem dL_cell_6 : decode cL_cell 6 = .ok (.aload_n 0, 1) := by decide +kernel
theorem dL_cell_7 : decode cL_cell 7 = .ok (.iload_n 1, 1) := by decide +kernel
theorem dL_cell_8 : decode cL_cell 8 = .ok (.iaload, 1) := by decide +kernel
theorem dL_cell_9 : decode cL_cell 9 = .ok (.goto 7, 3) := by decide +kernel
theorem dL_cell_12 : decode cL_cell 12 = .ok (.ldc 7, 2) := by decide +kernel
theorem dL_cell_14 : decode cL_cell 14 = .ok (.iload_n 1, 1) := by decide +kernel
theorem dL_cell_15 : decode cL_cell 15 = .ok (.imul, 1) := by decide +kernel
theorem dL_cell_16 : decode cL_cell 16 = .ok (.ireturn, 1) := by decide +kernel
set_option maxRecDepth 20000 in
theorem ggL_draw_L_cell : GoodIn wsL_draw wsL_cell := goodIn_ca (goodIn_r _ [4, 5] (by decide +kernel) (by decide +kernel)) (goodIn_sub (fun _ h => List.mem_cons_of_mem _ (List.mem_append_right _ h)) (by decide +kernel))
set_option maxRecDepth 20000 in
theorem gL_draw_L_cell : GoodIn wsL_draw (va_wsS RL 8 yL_cell wsL_cell) := goodIn_app (goodIn_of _ (by decide +kernel)) ggL_draw_L_cell
theorem dL_draw_0 : decode cL_draw 0 = .ok (.aload_n 0, 1) := by decide +kernel
theorem dL_draw_1 : decode cL_draw 1 = .ok (.iload_n 1, 1) := by decide +kernel
theorem dL_draw_2 : decode cL_draw 2 = .ok (.invokestatic 8, 3) := by decide +kernel
theorem dL_draw_5 : decode cL_draw 5 = .ok (.iconst 1, 1) := by decide +kernel
theorem dL_draw_6 : decode cL_draw 6 = .ok (.iushr, 1) := by decide +kernel
theorem dL_draw_7 : decode cL_draw 7 = .ok (.iload_n 2, 1) := by decide +kernel
theorem dL_draw_8 : decode cL_draw 8 = .ok (.irem, 1) := by decide +kernel
theorem dL_draw_9 : decode cL_draw 9 = .ok (.ireturn, 1) := by decide +kernel
theorem dL_next_0 : decode cL_next 0 = .ok (.iload_n 1, 1) := by decide +kernel
theorem dL_next_1 : decode cL_next 1 = .ok (.iconst 1, 1) := by decide +kernel
theorem dL_next_2 : decode cL_next 2 = .ok (.iadd, 1) := by decide +kernel
theorem dL_next_3 : decode cL_next 3 = .ok (.istore_n 2, 1) := by decide +kernel
theorem dL_next_4 : decode cL_next 4 = .ok (.iload_n 2, 1) := by decide +kernel
theorem dL_next_5 : decode cL_next 5 = .ok (.sipush 1000, 3) := by decide +kernel
theorem dL_next_8 : decode cL_next 8 = .ok (.if_icmp .ge 15, 3) := by decide +kernel
theorem dL_next_11 : decode cL_next 11 = .ok (.aload_n 0, 1) := by decide +kernel
theorem dL_next_12 : decode cL_next 12 = .ok (.iload_n 2, 1) := by decide +kernel
theorem dL_next_13 : decode cL_next 13 = .ok (.iaload, 1) := by decide +kernel
theorem dL_next_14 : decode cL_next 14 = .ok (.ifCond .ge 9, 3) := by decide +kernel
theorem dL_next_17 : decode cL_next 17 = .ok (.iinc 2 1, 3) := by decide +kernel
theorem dL_next_20 : decode cL_next 20 = .ok (.goto (-16), 3) := by decide +kernel
theorem dL_next_23 : decode cL_next 23 = .ok (.iload_n 2, 1) := by decide +kernel
theorem dL_next_24 : decode cL_next 24 = .ok (.ireturn, 1) := by decide +kernel
theorem dL_fill_0 : decode cL_fill 0 = .ok (.iload_n 1, 1) := by decide +kernel
theorem dL_fill_1 : decode cL_fill 1 = .ok (.istore 4, 2) := by decide +kernel
theorem dL_fill_3 : decode cL_fill 3 = .ok (.iload 4, 2) := by decide +kernel
theorem dL_fill_5 : decode cL_fill 5 = .ok (.iload_n 2, 1) := by decide +kernel
theorem dL_fill_6 : decode cL_fill 6 = .ok (.if_icmp .ge 14, 3) := by decide +kernel
theorem dL_fill_9 : decode cL_fill 9 = .ok (.aload_n 0, 1) := by decide +kernel
theorem dL_fill_10 : decode cL_fill 10 = .ok (.iload 4, 2) := by decide +kernel
theorem dL_fill_12 : decode cL_fill 12 = .ok (.iload_n 3, 1) := by decide +kernel
theorem dL_fill_13 : decode cL_fill 13 = .ok (.iastore, 1) := by decide +kernel
theorem dL_fill_14 : decode cL_fill 14 = .ok (.iinc 4 1, 3) := by decide +kernel
theorem dL_fill_17 : decode cL_fill 17 = .ok (.goto (-14), 3) := by decide +kernel
theorem dL_fill_20 : decode cL_fill 20 = .ok (.return_, 1) := by decide +kernel
set_option maxRecDepth 20000 in
theorem ggL_change_L_fill : GoodIn wsL_change wsL_fill := goodIn_ca (goodIn_r _ [4] (by decide +kernel) (by decide +kernel)) (goodIn_sub (fun _ h => List.mem_cons_of_mem _ (List.mem_append_right _ h)) (by decide +kernel))
set_option maxRecDepth 20000 in
theorem gL_change_L_fill : GoodIn wsL_change (va_wsS RL 14 yL_fill wsL_fill) := goodIn_app (goodIn_of _ (by decide +kernel)) ggL_change_L_fill
set_option maxRecDepth 20000 in
theorem ggL_change_L_next : GoodIn wsL_change wsL_next := goodIn_ca (goodIn_r _ [7] (by decide +kernel) (by decide +kernel)) (goodIn_sub (fun _ h => List.mem_cons_of_mem _ (List.mem_append_right _ h)) (by decide +kernel))
set_option maxRecDepth 20000 in
theorem gL_change_L_next : GoodIn wsL_change (va_wsS RL 18 yL_next wsL_next) := goodIn_app (goodIn_of _ (by decide +kernel)) ggL_change_L_next
theorem dL_change_0 : decode cL_change 0 = .ok (.aload_n 0, 1) := by decide +kernel
theorem dL_change_1 : decode cL_change 1 = .ok (.iload 4, 2) := by decide +kernel
theorem dL_change_3 : decode cL_change 3 = .ok (.iaload, 1) := by decide +kernel
theorem dL_change_4 : decode cL_change 4 = .ok (.istore 6, 2) := by decide +kernel
theorem dL_change_6 : decode cL_change 6 = .ok (.iload 6, 2) := by decide +kernel
theorem dL_change_8 : decode cL_change 8 = .ok (.ifCond .lt 38, 3) := by decide +kernel
theorem dL_change_11 : decode cL_change 11 = .ok (.iload 4, 2) := by decide +kernel
theorem dL_change_13 : decode cL_change 13 = .ok (.ifCond .eq 14, 3) := by decide +kernel
theorem dL_change_16 : decode cL_change 16 = .ok (.aload_n 0, 1) := by decide +kernel
theorem dL_change_17 : decode cL_change 17 = .ok (.iload 4, 2) := by decide +kernel
theorem dL_change_19 : decode cL_change 19 = .ok (.iconst 1, 1) := by decide +kernel
theorem dL_change_20 : decode cL_change 20 = .ok (.isub, 1) := by decide +kernel
theorem dL_change_21 : decode cL_change 21 = .ok (.iaload, 1) := by decide +kernel
theorem dL_change_22 : decode cL_change 22 = .ok (.iload 6, 2) := by decide +kernel
theorem dL_change_24 : decode cL_change 24 = .ok (.if_icmp .eq 22, 3) := by decide +kernel
theorem dL_change_27 : decode cL_change 27 = .ok (.aload_n 1, 1) := by decide +kernel
theorem dL_change_28 : decode cL_change 28 = .ok (.iconst 3, 1) := by decide +kernel
theorem dL_change_29 : decode cL_change 29 = .ok (.iload 6, 2) := by decide +kernel
theorem dL_change_31 : decode cL_change 31 = .ok (.imul, 1) := by decide +kernel
theorem dL_change_32 : decode cL_change 32 = .ok (.iload 5, 2) := by decide +kernel
theorem dL_change_34 : decode cL_change 34 = .ok (.iastore, 1) := by decide +kernel
theorem dL_change_35 : decode cL_change 35 = .ok (.aload_n 1, 1) := by decide +kernel
theorem dL_change_36 : decode cL_change 36 = .ok (.iconst 3, 1) := by decide +kernel
theorem dL_change_37 : decode cL_change 37 = .ok (.iload 6, 2) := by decide +kernel
theorem dL_change_39 : decode cL_change 39 = .ok (.imul, 1) := by decide +kernel
theorem dL_change_40 : decode cL_change 40 = .ok (.iconst 1, 1) := by decide +kernel
theorem dL_change_41 : decode cL_change 41 = .ok (.iadd, 1) := by decide +kernel
theorem dL_change_42 : decode cL_change 42 = .ok (.iconst 0, 1) := by decide +kernel
theorem dL_change_43 : decode cL_change 43 = .ok (.iastore, 1) := by decide +kernel
theorem dL_change_44 : decode cL_change 44 = .ok (.iload_n 2, 1) := by decide +kernel
theorem dL_change_45 : decode cL_change 45 = .ok (.ireturn, 1) := by decide +kernel
theorem dL_change_46 : decode cL_change 46 = .ok (.iload 6, 2) := by decide +kernel
theorem dL_change_48 : decode cL_change 48 = .ok (.ifCond .lt 66, 3) := by decide +kernel
theorem dL_change_51 : decode cL_change 51 = .ok (.aload_n 1, 1) := by decide +kernel
theorem dL_change_52 : decode cL_change 52 = .ok (.iconst 3, 1) := by decide +kernel
theorem dL_change_53 : decode cL_change 53 = .ok (.iload 6, 2) := by decide +kernel
theorem dL_change_55 : decode cL_change 55 = .ok (.imul, 1) := by decide +kernel
theorem dL_change_56 : decode cL_change 56 = .ok (.iconst 1, 1) := by decide +kernel
theorem dL_change_57 : decode cL_change 57 = .ok (.iadd, 1) := by decide +kernel
theorem dL_change_58 : decode cL_change 58 = .ok (.iaload, 1) := by decide +kernel
theorem dL_change_59 : decode cL_change 59 = .ok (.ifCond .ne 16, 3) := by decide +kernel
theorem dL_change_62 : decode cL_change 62 = .ok (.aload_n 1, 1) := by decide +kernel
theorem dL_change_63 : decode cL_change 63 = .ok (.iconst 3, 1) := by decide +kernel
theorem dL_change_64 : decode cL_change 64 = .ok (.iload 6, 2) := by decide +kernel
theorem dL_change_66 : decode cL_change 66 = .ok (.imul, 1) := by decide +kernel
theorem dL_change_67 : decode cL_change 67 = .ok (.iaload, 1) := by decide +kernel
theorem dL_change_68 : decode cL_change 68 = .ok (.iload 5, 2) := by decide +kernel
theorem dL_change_70 : decode cL_change 70 = .ok (.if_icmp .ne 5, 3) := by decide +kernel
theorem dL_change_73 : decode cL_change 73 = .ok (.iload_n 2, 1) := by decide +kernel
theorem dL_change_74 : decode cL_change 74 = .ok (.ireturn, 1) := by decide +kernel
theorem dL_change_75 : decode cL_change 75 = .ok (.iload 4, 2) := by decide +kernel
theorem dL_change_77 : decode cL_change 77 = .ok (.istore 7, 2) := by decide +kernel
theorem dL_change_79 : decode cL_change 79 = .ok (.iload 7, 2) := by decide +kernel
theorem dL_change_81 : decode cL_change 81 = .ok (.sipush 1000, 3) := by decide +kernel
theorem dL_change_84 : decode cL_change 84 = .ok (.if_icmp .ge 18, 3) := by decide +kernel
theorem dL_change_87 : decode cL_change 87 = .ok (.aload_n 0, 1) := by decide +kernel
theorem dL_change_88 : decode cL_change 88 = .ok (.iload 7, 2) := by decide +kernel
theorem dL_change_90 : decode cL_change 90 = .ok (.iaload, 1) := by decide +kernel
theorem dL_change_91 : decode cL_change 91 = .ok (.iload 6, 2) := by decide +kernel
theorem dL_change_93 : decode cL_change 93 = .ok (.if_icmp .ne 9, 3) := by decide +kernel
theorem dL_change_96 : decode cL_change 96 = .ok (.iinc 7 1, 3) := by decide +kernel
theorem dL_change_99 : decode cL_change 99 = .ok (.goto (-20), 3) := by decide +kernel
theorem dL_change_102 : decode cL_change 102 = .ok (.aload_n 0, 1) := by decide +kernel
theorem dL_change_103 : decode cL_change 103 = .ok (.iload 4, 2) := by decide +kernel
theorem dL_change_105 : decode cL_change 105 = .ok (.iload 7, 2) := by decide +kernel
theorem dL_change_107 : decode cL_change 107 = .ok (.iload_n 2, 1) := by decide +kernel
theorem dL_change_108 : decode cL_change 108 = .ok (.invokestatic 14, 3) := by decide +kernel
theorem dL_change_111 : decode cL_change 111 = .ok (.goto 77, 3) := by decide +kernel
theorem dL_change_114 : decode cL_change 114 = .ok (.aload_n 0, 1) := by decide +kernel
theorem dL_change_115 : decode cL_change 115 = .ok (.iload 4, 2) := by decide +kernel
theorem dL_change_117 : decode cL_change 117 = .ok (.invokestatic 18, 3) := by decide +kernel
theorem dL_change_120 : decode cL_change 120 = .ok (.istore 7, 2) := by decide +kernel
theorem dL_change_122 : decode cL_change 122 = .ok (.iload 7, 2) := by decide +kernel
theorem dL_change_124 : decode cL_change 124 = .ok (.sipush 1000, 3) := by decide +kernel
theorem dL_change_127 : decode cL_change 127 = .ok (.if_icmp .ge 52, 3) := by decide +kernel
theorem dL_change_130 : decode cL_change 130 = .ok (.aload_n 1, 1) := by decide +kernel
theorem dL_change_131 : decode cL_change 131 = .ok (.iconst 3, 1) := by decide +kernel
theorem dL_change_132 : decode cL_change 132 = .ok (.aload_n 0, 1) := by decide +kernel
theorem dL_change_133 : decode cL_change 133 = .ok (.iload 7, 2) := by decide +kernel
theorem dL_change_135 : decode cL_change 135 = .ok (.iaload, 1) := by decide +kernel
theorem dL_change_136 : decode cL_change 136 = .ok (.imul, 1) := by decide +kernel
theorem dL_change_137 : decode cL_change 137 = .ok (.iconst 1, 1) := by decide +kernel
theorem dL_change_138 : decode cL_change 138 = .ok (.iadd, 1) := by decide +kernel
theorem dL_change_139 : decode cL_change 139 = .ok (.iaload, 1) := by decide +kernel
theorem dL_change_140 : decode cL_change 140 = .ok (.iconst 1, 1) := by decide +kernel
theorem dL_change_141 : decode cL_change 141 = .ok (.if_icmp .ne 38, 3) := by decide +kernel
theorem dL_change_144 : decode cL_change 144 = .ok (.aload_n 0, 1) := by decide +kernel
theorem dL_change_145 : decode cL_change 145 = .ok (.iload 7, 2) := by decide +kernel
theorem dL_change_147 : decode cL_change 147 = .ok (.iaload, 1) := by decide +kernel
theorem dL_change_148 : decode cL_change 148 = .ok (.istore 8, 2) := by decide +kernel
theorem dL_change_150 : decode cL_change 150 = .ok (.aload_n 0, 1) := by decide +kernel
theorem dL_change_151 : decode cL_change 151 = .ok (.iload 4, 2) := by decide +kernel
theorem dL_change_153 : decode cL_change 153 = .ok (.iload 7, 2) := by decide +kernel
theorem dL_change_155 : decode cL_change 155 = .ok (.iload 8, 2) := by decide +kernel
theorem dL_change_157 : decode cL_change 157 = .ok (.invokestatic 14, 3) := by decide +kernel
theorem dL_change_160 : decode cL_change 160 = .ok (.aload_n 1, 1) := by decide +kernel
theorem dL_change_161 : decode cL_change 161 = .ok (.iconst 3, 1) := by decide +kernel
theorem dL_change_162 : decode cL_change 162 = .ok (.iload 8, 2) := by decide +kernel
theorem dL_change_164 : decode cL_change 164 = .ok (.imul, 1) := by decide +kernel
theorem dL_change_165 : decode cL_change 165 = .ok (.iload 5, 2) := by decide +kernel
theorem dL_change_167 : decode cL_change 167 = .ok (.iastore, 1) := by decide +kernel
theorem dL_change_168 : decode cL_change 168 = .ok (.aload_n 1, 1) := by decide +kernel
theorem dL_change_169 : decode cL_change 169 = .ok (.iconst 3, 1) := by decide +kernel
theorem dL_change_170 : decode cL_change 170 = .ok (.iload 8, 2) := by decide +kernel
theorem dL_change_172 : decode cL_change 172 = .ok (.imul, 1) := by decide +kernel
theorem dL_change_173 : decode cL_change 173 = .ok (.iconst 1, 1) := by decide +kernel
theorem dL_change_174 : decode cL_change 174 = .ok (.iadd, 1) := by decide +kernel
theorem dL_change_175 : decode cL_change 175 = .ok (.iconst 0, 1) := by decide +kernel
theorem dL_change_176 : decode cL_change 176 = .ok (.iastore, 1) := by decide +kernel
theorem dL_change_177 : decode cL_change 177 = .ok (.iload_n 2, 1) := by decide +kernel
theorem dL_change_178 : decode cL_change 178 = .ok (.ireturn, 1) := by decide +kernel
theorem dL_change_179 : decode cL_change 179 = .ok (.aload_n 0, 1) := by decide +kernel
theorem dL_change_180 : decode cL_change 180 = .ok (.iload 4, 2) := by decide +kernel
theorem dL_change_182 : decode cL_change 182 = .ok (.iload 7, 2) := by decide +kernel
theorem dL_change_184 : decode cL_change 184 = .ok (.iload_n 2, 1) := by decide +kernel
theorem dL_change_185 : decode cL_change 185 = .ok (.invokestatic 14, 3) := by decide +kernel
theorem dL_change_188 : decode cL_change 188 = .ok (.aload_n 1, 1) := by decide +kernel
theorem dL_change_189 : decode cL_change 189 = .ok (.iconst 3, 1) := by decide +kernel
theorem dL_change_190 : decode cL_change 190 = .ok (.iload_n 2, 1) := by decide +kernel
theorem dL_change_191 : decode cL_change 191 = .ok (.imul, 1) := by decide +kernel
theorem dL_change_192 : decode cL_change 192 = .ok (.iload 5, 2) := by decide +kernel
theorem dL_change_194 : decode cL_change 194 = .ok (.iastore, 1) := by decide +kernel
theorem dL_change_195 : decode cL_change 195 = .ok (.aload_n 1, 1) := by decide +kernel
theorem dL_change_196 : decode cL_change 196 = .ok (.iconst 3, 1) := by decide +kernel
theorem dL_change_197 : decode cL_change 197 = .ok (.iload_n 2, 1) := by decide +kernel
theorem dL_change_198 : decode cL_change 198 = .ok (.imul, 1) := by decide +kernel
theorem dL_change_199 : decode cL_change 199 = .ok (.iconst 1, 1) := by decide +kernel
theorem dL_change_200 : decode cL_change 200 = .ok (.iadd, 1) := by decide +kernel
theorem dL_change_201 : decode cL_change 201 = .ok (.iconst 0, 1) := by decide +kernel
theorem dL_change_202 : decode cL_change 202 = .ok (.iastore, 1) := by decide +kernel
theorem dL_change_203 : decode cL_change 203 = .ok (.aload_n 1, 1) := by decide +kernel
theorem dL_change_204 : decode cL_change 204 = .ok (.iconst 3, 1) := by decide +kernel
theorem dL_change_205 : decode cL_change 205 = .ok (.iload_n 2, 1) := by decide +kernel
theorem dL_change_206 : decode cL_change 206 = .ok (.imul, 1) := by decide +kernel
theorem dL_change_207 : decode cL_change 207 = .ok (.iconst 2, 1) := by decide +kernel
theorem dL_change_208 : decode cL_change 208 = .ok (.iadd, 1) := by decide +kernel
theorem dL_change_209 : decode cL_change 209 = .ok (.iload_n 3, 1) := by decide +kernel
theorem dL_change_210 : decode cL_change 210 = .ok (.iastore, 1) := by decide +kernel
theorem dL_change_211 : decode cL_change 211 = .ok (.iload_n 2, 1) := by decide +kernel
theorem dL_change_212 : decode cL_change 212 = .ok (.iconst 1, 1) := by decide +kernel
theorem dL_change_213 : decode cL_change 213 = .ok (.iadd, 1) := by decide +kernel
theorem dL_change_214 : decode cL_change 214 = .ok (.ireturn, 1) := by decide +kernel
set_option maxRecDepth 20000 in
theorem ggL_fact_L_next : GoodIn wsL_fact wsL_next := goodIn_ca (goodIn_r _ [4] (by decide +kernel) (by decide +kernel)) (goodIn_sub (fun _ h => List.mem_cons_of_mem _ (List.mem_append_right _ h)) (by decide +kernel))
set_option maxRecDepth 20000 in
theorem gL_fact_L_next : GoodIn wsL_fact (va_wsS RL 18 yL_next wsL_next) := goodIn_app (goodIn_of _ (by decide +kernel)) ggL_fact_L_next
set_option maxRecDepth 20000 in
theorem ggL_fact_L_fill : GoodIn wsL_fact wsL_fill := goodIn_ca (goodIn_r _ [7] (by decide +kernel) (by decide +kernel)) (goodIn_sub (fun _ h => List.mem_cons_of_mem _ (List.mem_append_right _ h)) (by decide +kernel))
set_option maxRecDepth 20000 in
theorem gL_fact_L_fill : GoodIn wsL_fact (va_wsS RL 14 yL_fill wsL_fill) := goodIn_app (goodIn_of _ (by decide +kernel)) ggL_fact_L_fill
theorem dL_fact_0 : decode cL_fact 0 = .ok (.aload_n 0, 1) := by decide +kernel
theorem dL_fact_1 : decode cL_fact 1 = .ok (.iload 4, 2) := by decide +kernel
theorem dL_fact_3 : decode cL_fact 3 = .ok (.iaload, 1) := by decide +kernel
theorem dL_fact_4 : decode cL_fact 4 = .ok (.ifCond .lt 5, 3) := by decide +kernel
theorem dL_fact_7 : decode cL_fact 7 = .ok (.iload_n 2, 1) := by decide +kernel
theorem dL_fact_8 : decode cL_fact 8 = .ok (.ireturn, 1) := by decide +kernel
theorem dL_fact_9 : decode cL_fact 9 = .ok (.aload_n 0, 1) := by decide +kernel
theorem dL_fact_10 : decode cL_fact 10 = .ok (.iload 4, 2) := by decide +kernel
theorem dL_fact_12 : decode cL_fact 12 = .ok (.invokestatic 18, 3) := by decide +kernel
theorem dL_fact_15 : decode cL_fact 15 = .ok (.istore 5, 2) := by decide +kernel
theorem dL_fact_17 : decode cL_fact 17 = .ok (.iload 5, 2) := by decide +kernel
theorem dL_fact_19 : decode cL_fact 19 = .ok (.sipush 1000, 3) := by decide +kernel
theorem dL_fact_22 : decode cL_fact 22 = .ok (.if_icmp .ge 31, 3) := by decide +kernel
theorem dL_fact_25 : decode cL_fact 25 = .ok (.aload_n 1, 1) := by decide +kernel
theorem dL_fact_26 : decode cL_fact 26 = .ok (.iconst 3, 1) := by decide +kernel
theorem dL_fact_27 : decode cL_fact 27 = .ok (.aload_n 0, 1) := by decide +kernel
theorem dL_fact_28 : decode cL_fact 28 = .ok (.iload 5, 2) := by decide +kernel
theorem dL_fact_30 : decode cL_fact 30 = .ok (.iaload, 1) := by decide +kernel
theorem dL_fact_31 : decode cL_fact 31 = .ok (.imul, 1) := by decide +kernel
theorem dL_fact_32 : decode cL_fact 32 = .ok (.iconst 1, 1) := by decide +kernel
theorem dL_fact_33 : decode cL_fact 33 = .ok (.iadd, 1) := by decide +kernel
theorem dL_fact_34 : decode cL_fact 34 = .ok (.iaload, 1) := by decide +kernel
theorem dL_fact_35 : decode cL_fact 35 = .ok (.iconst 1, 1) := by decide +kernel
theorem dL_fact_36 : decode cL_fact 36 = .ok (.if_icmp .ne 17, 3) := by decide +kernel
theorem dL_fact_39 : decode cL_fact 39 = .ok (.aload_n 0, 1) := by decide +kernel
theorem dL_fact_40 : decode cL_fact 40 = .ok (.iload 4, 2) := by decide +kernel
theorem dL_fact_42 : decode cL_fact 42 = .ok (.iload 5, 2) := by decide +kernel
theorem dL_fact_44 : decode cL_fact 44 = .ok (.aload_n 0, 1) := by decide +kernel
theorem dL_fact_45 : decode cL_fact 45 = .ok (.iload 5, 2) := by decide +kernel
theorem dL_fact_47 : decode cL_fact 47 = .ok (.iaload, 1) := by decide +kernel
theorem dL_fact_48 : decode cL_fact 48 = .ok (.invokestatic 14, 3) := by decide +kernel
theorem dL_fact_51 : decode cL_fact 51 = .ok (.iload_n 2, 1) := by decide +kernel
theorem dL_fact_52 : decode cL_fact 52 = .ok (.ireturn, 1) := by decide +kernel
theorem dL_fact_53 : decode cL_fact 53 = .ok (.aload_n 0, 1) := by decide +kernel
theorem dL_fact_54 : decode cL_fact 54 = .ok (.iload 4, 2) := by decide +kernel
theorem dL_fact_56 : decode cL_fact 56 = .ok (.iload 5, 2) := by decide +kernel
theorem dL_fact_58 : decode cL_fact 58 = .ok (.iload_n 2, 1) := by decide +kernel
theorem dL_fact_59 : decode cL_fact 59 = .ok (.invokestatic 14, 3) := by decide +kernel
theorem dL_fact_62 : decode cL_fact 62 = .ok (.aload_n 1, 1) := by decide +kernel
theorem dL_fact_63 : decode cL_fact 63 = .ok (.iconst 3, 1) := by decide +kernel
theorem dL_fact_64 : decode cL_fact 64 = .ok (.iload_n 2, 1) := by decide +kernel
theorem dL_fact_65 : decode cL_fact 65 = .ok (.imul, 1) := by decide +kernel
theorem dL_fact_66 : decode cL_fact 66 = .ok (.iconst 0, 1) := by decide +kernel
theorem dL_fact_67 : decode cL_fact 67 = .ok (.iastore, 1) := by decide +kernel
theorem dL_fact_68 : decode cL_fact 68 = .ok (.aload_n 1, 1) := by decide +kernel
theorem dL_fact_69 : decode cL_fact 69 = .ok (.iconst 3, 1) := by decide +kernel
theorem dL_fact_70 : decode cL_fact 70 = .ok (.iload_n 2, 1) := by decide +kernel
theorem dL_fact_71 : decode cL_fact 71 = .ok (.imul, 1) := by decide +kernel
theorem dL_fact_72 : decode cL_fact 72 = .ok (.iconst 1, 1) := by decide +kernel
theorem dL_fact_73 : decode cL_fact 73 = .ok (.iadd, 1) := by decide +kernel
theorem dL_fact_74 : decode cL_fact 74 = .ok (.iconst 1, 1) := by decide +kernel
theorem dL_fact_75 : decode cL_fact 75 = .ok (.iastore, 1) := by decide +kernel
theorem dL_fact_76 : decode cL_fact 76 = .ok (.aload_n 1, 1) := by decide +kernel
theorem dL_fact_77 : decode cL_fact 77 = .ok (.iconst 3, 1) := by decide +kernel
theorem dL_fact_78 : decode cL_fact 78 = .ok (.iload_n 2, 1) := by decide +kernel
theorem dL_fact_79 : decode cL_fact 79 = .ok (.imul, 1) := by decide +kernel
theorem dL_fact_80 : decode cL_fact 80 = .ok (.iconst 2, 1) := by decide +kernel
theorem dL_fact_81 : decode cL_fact 81 = .ok (.iadd, 1) := by decide +kernel
theorem dL_fact_82 : decode cL_fact 82 = .ok (.iload_n 3, 1) := by decide +kernel
theorem dL_fact_83 : decode cL_fact 83 = .ok (.iastore, 1) := by decide +kernel
theorem dL_fact_84 : decode cL_fact 84 = .ok (.iload_n 2, 1) := by decide +kernel
theorem dL_fact_85 : decode cL_fact 85 = .ok (.iconst 1, 1) := by decide +kernel
theorem dL_fact_86 : decode cL_fact 86 = .ok (.iadd, 1) := by decide +kernel
theorem dL_fact_87 : decode cL_fact 87 = .ok (.ireturn, 1) := by decide +kernel
set_option maxRecDepth 20000 in
theorem ggL_close_X5_close : GoodIn wsL_close wsX5_close := goodIn_ca (goodIn_ca (goodIn_ca (goodIn_ca (goodIn_ca (goodIn_r _ [9, 10, 11, 12, 13, 14, 15, 16, 17, 18, 19, 20, 8, 21, 22, 23, 24, 25, 26, 27, 28, 29, 30, 31, 32, 33, 34, 35, 36, 37, 38, 39, 40, 41, 42, 43, 44, 45, 46, 47, 48, 49, 50, 51, 52, 53, 54, 55, 56, 57, 58, 59, 60, 61, 62, 63, 64, 65, 66, 67, 68, 69, 70, 71, 72, 73, 74, 75, 76, 77, 78, 79, 80, 81, 82, 83, 84, 85, 86, 87, 88] (by decide +kernel) (by decide +kernel)) (goodIn_sub (fun _ h => List.mem_cons_of_mem _ (List.mem_append_left _ (List.mem_append_left _ (List.mem_append_left _ (List.mem_append_left _ (List.mem_append_right _ h)))))) (by decide +kernel))) (goodIn_sub (fun _ h => List.mem_cons_of_mem _ (List.mem_append_left _ (List.mem_append_left _ (List.mem_append_left _ (List.mem_append_right _ h))))) (by decide +kernel))) (goodIn_sub (fun _ h => List.mem_cons_of_mem _ (List.mem_append_left _ (List.mem_append_left _ (List.mem_append_right _ h)))) (by decide +kernel))) (goodIn_sub (fun _ h => List.mem_cons_of_mem _ (List.mem_append_left _ (List.mem_append_right _ h))) (by decide +kernel))) (goodIn_sub (fun _ h => List.mem_cons_of_mem _ (List.mem_append_right _ h)) (by decide +kernel))
set_option maxRecDepth 20000 in
theorem gL_close_X5_close : GoodIn wsL_close (wsV RL 21 RX5 yX5_close wsX5_close) := goodIn_app (goodIn_of _ (by decide +kernel)) ggL_close_X5_close
theorem dL_close_0 : decode cL_close 0 = .ok (.aload_n 0, 1) := by decide +kernel
theorem dL_close_1 : decode cL_close 1 = .ok (.iload_n 1, 1) := by decide +kernel
theorem dL_close_2 : decode cL_close 2 = .ok (.iload_n 2, 1) := by decide +kernel
theorem dL_close_3 : decode cL_close 3 = .ok (.invokevirtual 21, 3) := by decide +kernel
theorem dL_close_6 : decode cL_close 6 = .ok (.ireturn, 1) := by decide +kernel
theorem dL_close_7 : decode cL_close 7 = .ok (.astore_n 3, 1) := by decide +kernel
theorem dL_close_8 : decode cL_close 8 = .ok (.iconst (-1), 1) := by decide +kernel
theorem dL_close_9 : decode cL_close 9 = .ok (.ireturn, 1) := by decide +kernel
theorem dL_close_10 : decode cL_close 10 = .ok (.astore_n 3, 1) := by decide +kernel
theorem dL_close_11 : decode cL_close 11 = .ok (.bipush (-2), 2) := by decide +kernel
theorem dL_close_13 : decode cL_close 13 = .ok (.ireturn, 1) := by decide +kernel
theorem dL_close_14 : decode cL_close 14 = .ok (.astore_n 3, 1) := by decide +kernel
theorem dL_close_15 : decode cL_close 15 = .ok (.bipush (-3), 2) := by decide +kernel
theorem dL_close_17 : decode cL_close 17 = .ok (.ireturn, 1) := by decide +kernel
theorem dL_close_18 : decode cL_close 18 = .ok (.astore_n 3, 1) := by decide +kernel
theorem dL_close_19 : decode cL_close 19 = .ok (.bipush (-4), 2) := by decide +kernel
theorem dL_close_21 : decode cL_close 21 = .ok (.ireturn, 1) := by decide +kernel
set_option maxRecDepth 20000 in
theorem ggL_remove_X5_remove : GoodIn wsL_remove wsX5_remove := goodIn_ca (goodIn_ca (goodIn_ca (goodIn_r _ [7, 8, 9, 10, 11, 12, 13, 14, 15, 6, 16, 17, 18, 19, 20, 21, 22, 23, 24, 25, 26, 27, 28, 29, 30, 31, 32, 33, 34, 35, 36, 37, 38, 39, 40, 41, 42, 43, 44, 45, 46, 47, 48, 49, 50, 51, 52, 53, 54, 55, 56, 57, 58, 59, 60, 61, 62, 63, 64, 65, 66, 67, 68, 69, 70, 71, 72, 73, 74, 75, 76, 77, 78, 79, 80, 81, 82, 83, 84, 85, 86, 87, 88, 89, 90] (by decide +kernel) (by decide +kernel)) (goodIn_sub (fun _ h => List.mem_cons_of_mem _ (List.mem_append_left _ (List.mem_append_left _ (List.mem_append_right _ h)))) (by decide +kernel))) (goodIn_sub (fun _ h => List.mem_cons_of_mem _ (List.mem_append_left _ (List.mem_append_right _ h))) (by decide +kernel))) (goodIn_sub (fun _ h => List.mem_cons_of_mem _ (List.mem_append_right _ h)) (by decide +kernel))
set_option maxRecDepth 20000 in
theorem gL_remove_X5_remove : GoodIn wsL_remove (wsV RL 35 RX5 yX5_remove wsX5_remove) := goodIn_app (goodIn_of _ (by decide +kernel)) ggL_remove_X5_remove
theorem dL_remove_0 : decode cL_remove 0 = .ok (.aload_n 0, 1) := by decide +kernel
theorem dL_remove_1 : decode cL_remove 1 = .ok (.iload_n 1, 1) := by decide +kernel
theorem dL_remove_2 : decode cL_remove 2 = .ok (.invokevirtual 35, 3) := by decide +kernel
theorem dL_remove_5 : decode cL_remove 5 = .ok (.ireturn, 1) := by decide +kernel
theorem dL_remove_6 : decode cL_remove 6 = .ok (.astore_n 2, 1) := by decide +kernel
theorem dL_remove_7 : decode cL_remove 7 = .ok (.iconst (-1), 1) := by decide +kernel
theorem dL_remove_8 : decode cL_remove 8 = .ok (.ireturn, 1) := by decide +kernel
theorem dL_remove_9 : decode cL_remove 9 = .ok (.astore_n 2, 1) := by decide +kernel
theorem dL_remove_10 : decode cL_remove 10 = .ok (.bipush (-2), 2) := by decide +kernel
theorem dL_remove_12 : decode cL_remove 12 = .ok (.ireturn, 1) := by decide +kernel
set_option maxRecDepth 20000 in
theorem ggL_isKey_X5_versionAt : GoodIn wsL_isKey wsX5_versionAt := goodIn_ca (goodIn_ca (goodIn_ca (goodIn_r _ [5, 6, 7, 8, 9, 4, 10, 11, 12, 13, 14, 15, 16, 17, 18, 19, 20, 21, 22, 23, 24, 25, 26, 27, 28, 29, 30, 31, 32, 33, 34, 35, 36, 37, 38, 131, 132, 133, 134, 135, 136, 137, 138, 139, 140, 141, 142, 143, 144, 145, 146, 147, 148] (by decide +kernel) (by decide +kernel)) (goodIn_sub (fun _ h => List.mem_cons_of_mem _ (List.mem_append_left _ (List.mem_append_left _ (List.mem_append_left _ (List.mem_append_right _ h))))) (by decide +kernel))) (goodIn_sub (fun _ h => List.mem_cons_of_mem _ (List.mem_append_left _ (List.mem_append_left _ (List.mem_append_left _ (List.mem_append_left _ (List.mem_append_right _ h)))))) (by decide +kernel))) (goodIn_sub (fun _ h => List.mem_cons_of_mem _ (List.mem_append_left _ (List.mem_append_left _ (List.mem_append_right _ h)))) (by decide +kernel))
set_option maxRecDepth 20000 in
theorem gL_isKey_X5_versionAt : GoodIn wsL_isKey (wsV RL 39 RX5 yX5_versionAt wsX5_versionAt) := goodIn_app (goodIn_of _ (by decide +kernel)) ggL_isKey_X5_versionAt
set_option maxRecDepth 20000 in
theorem ggL_isKey_X5_version : GoodIn wsL_isKey wsX5_version := goodIn_ca (goodIn_ca (goodIn_ca (goodIn_r _ [42, 43, 44, 6, 7, 45, 46, 47, 48, 49, 50, 51, 52, 4, 53, 11, 12, 54, 30, 31, 16, 32, 18, 33, 55, 56, 57, 58, 59, 60, 61, 62, 63, 64, 65, 66, 19, 29, 131, 132, 133, 134, 135, 136, 137, 138, 139, 140, 141, 142, 143, 144, 145, 146, 147, 148, 149, 150, 151, 152, 153] (by decide +kernel) (by decide +kernel)) (goodIn_sub (fun _ h => List.mem_cons_of_mem _ (List.mem_append_left _ (List.mem_append_left _ (List.mem_append_left _ (List.mem_append_left _ (List.mem_append_right _ h)))))) (by decide +kernel))) (goodIn_sub (fun _ h => List.mem_cons_of_mem _ (List.mem_append_left _ (List.mem_append_right _ h))) (by decide +kernel))) (goodIn_sub (fun _ h => List.mem_cons_of_mem _ (List.mem_append_left _ (List.mem_append_left _ (List.mem_append_left _ (List.mem_append_right _ h))))) (by decide +kernel))
set_option maxRecDepth 20000 in
theorem gL_isKey_X5_version : GoodIn wsL_isKey (wsV RL 42 RX5 yX5_version wsX5_version) := goodIn_app (goodIn_of _ (by decide +kernel)) ggL_isKey_X5_version
set_option maxRecDepth 20000 in
theorem ggL_isKey_X5_isInferred : GoodIn wsL_isKey wsX5_isInferred := goodIn_ca (goodIn_ca (goodIn_r _ [70, 6, 7, 71, 50, 51, 52, 4, 53, 11, 12, 54, 30, 31, 16, 32, 18, 33, 131, 132, 133, 134, 135, 136, 137, 138, 139, 140, 141, 142, 143, 144, 145, 146, 147, 148] (by decide +kernel) (by decide +kernel)) (goodIn_sub (fun _ h => List.mem_cons_of_mem _ (List.mem_append_left _ (List.mem_append_left _ (List.mem_append_left _ (List.mem_append_left _ (List.mem_append_right _ h)))))) (by decide +kernel))) (goodIn_sub (fun _ h => List.mem_cons_of_mem _ (List.mem_append_left _ (List.mem_append_left _ (List.mem_append_left _ (List.mem_append_right _ h))))) (by decide +kernel))
set_option maxRecDepth 20000 in
theorem gL_isKey_X5_isInferred : GoodIn wsL_isKey (wsV RL 45 RX5 yX5_isInferred wsX5_isInferred) := goodIn_app (goodIn_of _ (by decide +kernel)) ggL_isKey_X5_isInferred
set_option maxRecDepth 20000 in
theorem ggL_isKey_X5_validOn : GoodIn wsL_isKey wsX5_validOn := goodIn_ca (goodIn_ca (goodIn_ca (goodIn_ca (goodIn_r _ [75, 6, 7, 8, 9, 4, 10, 11, 12, 76, 77, 78, 43, 44, 79, 80, 81, 16, 82, 18, 19, 66, 24, 25, 26, 27, 28, 29, 30, 31, 32, 33, 34, 35, 36, 37, 38, 131, 132, 133, 134, 135, 136, 137, 138, 139, 140, 141, 142, 143, 144, 145, 146, 147, 148] (by decide +kernel) (by decide +kernel)) (goodIn_sub (fun _ h => List.mem_cons_of_mem _ (List.mem_append_left _ (List.mem_append_left _ (List.mem_append_left _ (List.mem_append_right _ h))))) (by decide +kernel))) (goodIn_sub (fun _ h => List.mem_cons_of_mem _ (List.mem_append_left _ (List.mem_append_right _ h))) (by decide +kernel))) (goodIn_sub (fun _ h => List.mem_cons_of_mem _ (List.mem_append_left _ (List.mem_append_left _ (List.mem_append_left _ (List.mem_append_left _ (List.mem_append_right _ h)))))) (by decide +kernel))) (goodIn_sub (fun _ h => List.mem_cons_of_mem _ (List.mem_append_left _ (List.mem_append_left _ (List.mem_append_right _ h)))) (by decide +kernel))
set_option maxRecDepth 20000 in
theorem gL_isKey_X5_validOn : GoodIn wsL_isKey (wsV RL 49 RX5 yX5_validOn wsX5_validOn) := goodIn_app (goodIn_of _ (by decide +kernel)) ggL_isKey_X5_validOn
set_option maxRecDepth 20000 in
theorem ggL_isKey_L_next : GoodIn wsL_isKey wsL_next := goodIn_ca (goodIn_r _ [86] (by decide +kernel) (by decide +kernel)) (goodIn_sub (fun _ h => List.mem_cons_of_mem _ (List.mem_append_left _ (List.mem_append_left _ (List.mem_append_left _ (List.mem_append_left _ (List.mem_append_right _ h)))))) (by decide +kernel))
set_option maxRecDepth 20000 in
theorem gL_isKey_L_next : GoodIn wsL_isKey (va_wsS RL 18 yL_next wsL_next) := goodIn_app (goodIn_of _ (by decide +kernel)) ggL_isKey_L_next
set_option maxRecDepth 20000 in
theorem ggL_isKey_X5_gapDay : GoodIn wsL_isKey wsX5_gapDay := goodIn_ca (goodIn_ca (goodIn_ca (goodIn_r _ [90, 6, 7, 46, 47, 8, 9, 4, 10, 11, 12, 91, 92, 93, 16, 94, 18, 19, 20, 21, 22, 23, 24, 25, 26, 27, 28, 29, 30, 31, 32, 33, 95, 96, 97, 98, 66, 99, 100, 101, 102, 34, 35, 36, 37, 38, 103, 131, 132, 133, 134, 135, 136, 137, 138, 139, 140, 141, 142, 143, 144, 145, 146, 147, 148] (by decide +kernel) (by decide +kernel)) (goodIn_sub (fun _ h => List.mem_cons_of_mem _ (List.mem_append_left _ (List.mem_append_left _ (List.mem_append_left _ (List.mem_append_left _ (List.mem_append_right _ h)))))) (by decide +kernel))) (goodIn_sub (fun _ h => List.mem_cons_of_mem _ (List.mem_append_left _ (List.mem_append_left _ (List.mem_append_left _ (List.mem_append_right _ h))))) (by decide +kernel))) (goodIn_sub (fun _ h => List.mem_cons_of_mem _ (List.mem_append_left _ (List.mem_append_left _ (List.mem_append_right _ h)))) (by decide +kernel))
