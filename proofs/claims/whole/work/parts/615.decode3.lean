theorem d_Lw_load_0 : decode c_Lw_load 0 = .ok (.aload_n 1, 1) := by decide +kernel
theorem d_Lw_load_1 : decode c_Lw_load 1 = .ok (.iconst 0, 1) := by decide +kernel
theorem d_Lw_load_2 : decode c_Lw_load 2 = .ok (.aload_n 0, 1) := by decide +kernel
theorem d_Lw_load_3 : decode c_Lw_load 3 = .ok (.invokevirtual 7, 3) := by decide +kernel
theorem d_Lw_load_6 : decode c_Lw_load 6 = .ok (.i2l, 1) := by decide +kernel
theorem d_Lw_load_7 : decode c_Lw_load 7 = .ok (.lastore, 1) := by decide +kernel
theorem d_Lw_load_8 : decode c_Lw_load 8 = .ok (.goto 6, 3) := by decide +kernel
theorem d_Lw_load_11 : decode c_Lw_load 11 = .ok (.astore_n 2, 1) := by decide +kernel
theorem d_Lw_load_12 : decode c_Lw_load 12 = .ok (.iconst 1, 1) := by decide +kernel
theorem d_Lw_load_13 : decode c_Lw_load 13 = .ok (.ireturn, 1) := by decide +kernel
theorem d_Lw_load_14 : decode c_Lw_load 14 = .ok (.iconst 0, 1) := by decide +kernel
theorem d_Lw_load_15 : decode c_Lw_load 15 = .ok (.ireturn, 1) := by decide +kernel
theorem d_Lw_event_0 : decode c_Lw_event 0 = .ok (.aload 5, 2) := by decide +kernel
theorem d_Lw_event_2 : decode c_Lw_event 2 = .ok (.iconst 0, 1) := by decide +kernel
theorem d_Lw_event_3 : decode c_Lw_event 3 = .ok (.aload_n 0, 1) := by decide +kernel
theorem d_Lw_event_4 : decode c_Lw_event 4 = .ok (.iload_n 1, 1) := by decide +kernel
theorem d_Lw_event_5 : decode c_Lw_event 5 = .ok (.iload_n 2, 1) := by decide +kernel
theorem d_Lw_event_6 : decode c_Lw_event 6 = .ok (.iload_n 3, 1) := by decide +kernel
theorem d_Lw_event_7 : decode c_Lw_event 7 = .ok (.iload 4, 2) := by decide +kernel
theorem d_Lw_event_9 : decode c_Lw_event 9 = .ok (.invokevirtual 15, 3) := by decide +kernel
theorem d_Lw_event_12 : decode c_Lw_event 12 = .ok (.i2l, 1) := by decide +kernel
theorem d_Lw_event_13 : decode c_Lw_event 13 = .ok (.lastore, 1) := by decide +kernel
theorem d_Lw_event_14 : decode c_Lw_event 14 = .ok (.goto 11, 3) := by decide +kernel
theorem d_Lw_event_17 : decode c_Lw_event 17 = .ok (.astore 6, 2) := by decide +kernel
theorem d_Lw_event_19 : decode c_Lw_event 19 = .ok (.iconst 1, 1) := by decide +kernel
theorem d_Lw_event_20 : decode c_Lw_event 20 = .ok (.ireturn, 1) := by decide +kernel
theorem d_Lw_event_21 : decode c_Lw_event 21 = .ok (.astore 6, 2) := by decide +kernel
theorem d_Lw_event_23 : decode c_Lw_event 23 = .ok (.iconst 2, 1) := by decide +kernel
theorem d_Lw_event_24 : decode c_Lw_event 24 = .ok (.ireturn, 1) := by decide +kernel
theorem d_Lw_event_25 : decode c_Lw_event 25 = .ok (.iconst 0, 1) := by decide +kernel
theorem d_Lw_event_26 : decode c_Lw_event 26 = .ok (.ireturn, 1) := by decide +kernel
theorem d_Lw_size_0 : decode c_Lw_size 0 = .ok (.aload_n 2, 1) := by decide +kernel
theorem d_Lw_size_1 : decode c_Lw_size 1 = .ok (.iconst 0, 1) := by decide +kernel
theorem d_Lw_size_2 : decode c_Lw_size 2 = .ok (.aload_n 0, 1) := by decide +kernel
theorem d_Lw_size_3 : decode c_Lw_size 3 = .ok (.iload_n 1, 1) := by decide +kernel
theorem d_Lw_size_4 : decode c_Lw_size 4 = .ok (.invokevirtual 21, 3) := by decide +kernel
theorem d_Lw_size_7 : decode c_Lw_size 7 = .ok (.i2l, 1) := by decide +kernel
theorem d_Lw_size_8 : decode c_Lw_size 8 = .ok (.lastore, 1) := by decide +kernel
theorem d_Lw_size_9 : decode c_Lw_size 9 = .ok (.goto 6, 3) := by decide +kernel
theorem d_Lw_size_12 : decode c_Lw_size 12 = .ok (.astore_n 3, 1) := by decide +kernel
theorem d_Lw_size_13 : decode c_Lw_size 13 = .ok (.iconst 1, 1) := by decide +kernel
theorem d_Lw_size_14 : decode c_Lw_size 14 = .ok (.ireturn, 1) := by decide +kernel
theorem d_Lw_size_15 : decode c_Lw_size 15 = .ok (.iconst 0, 1) := by decide +kernel
theorem d_Lw_size_16 : decode c_Lw_size 16 = .ok (.ireturn, 1) := by decide +kernel
theorem d_Lw_at_0 : decode c_Lw_at 0 = .ok (.aload_n 3, 1) := by decide +kernel
theorem d_Lw_at_1 : decode c_Lw_at 1 = .ok (.iconst 0, 1) := by decide +kernel
theorem d_Lw_at_2 : decode c_Lw_at 2 = .ok (.aload_n 0, 1) := by decide +kernel
theorem d_Lw_at_3 : decode c_Lw_at 3 = .ok (.iload_n 1, 1) := by decide +kernel
theorem d_Lw_at_4 : decode c_Lw_at 4 = .ok (.iload_n 2, 1) := by decide +kernel
theorem d_Lw_at_5 : decode c_Lw_at 5 = .ok (.invokevirtual 27, 3) := by decide +kernel
theorem d_Lw_at_8 : decode c_Lw_at 8 = .ok (.i2l, 1) := by decide +kernel
theorem d_Lw_at_9 : decode c_Lw_at 9 = .ok (.lastore, 1) := by decide +kernel
theorem d_Lw_at_10 : decode c_Lw_at 10 = .ok (.goto 7, 3) := by decide +kernel
theorem d_Lw_at_13 : decode c_Lw_at 13 = .ok (.astore 4, 2) := by decide +kernel
theorem d_Lw_at_15 : decode c_Lw_at 15 = .ok (.iconst 1, 1) := by decide +kernel
theorem d_Lw_at_16 : decode c_Lw_at 16 = .ok (.ireturn, 1) := by decide +kernel
theorem d_Lw_at_17 : decode c_Lw_at 17 = .ok (.iconst 0, 1) := by decide +kernel
theorem d_Lw_at_18 : decode c_Lw_at 18 = .ok (.ireturn, 1) := by decide +kernel
theorem d_Lw_run_0 : decode c_Lw_run 0 = .ok (.aload_n 3, 1) := by decide +kernel
theorem d_Lw_run_1 : decode c_Lw_run 1 = .ok (.iconst 0, 1) := by decide +kernel
theorem d_Lw_run_2 : decode c_Lw_run 2 = .ok (.aload_n 0, 1) := by decide +kernel
theorem d_Lw_run_3 : decode c_Lw_run 3 = .ok (.iload_n 1, 1) := by decide +kernel
theorem d_Lw_run_4 : decode c_Lw_run 4 = .ok (.iload_n 2, 1) := by decide +kernel
theorem d_Lw_run_5 : decode c_Lw_run 5 = .ok (.invokevirtual 31, 3) := by decide +kernel
theorem d_Lw_run_8 : decode c_Lw_run 8 = .ok (.i2l, 1) := by decide +kernel
theorem d_Lw_run_9 : decode c_Lw_run 9 = .ok (.lastore, 1) := by decide +kernel
theorem d_Lw_run_10 : decode c_Lw_run 10 = .ok (.goto 11, 3) := by decide +kernel
theorem d_Lw_run_13 : decode c_Lw_run 13 = .ok (.astore 4, 2) := by decide +kernel
theorem d_Lw_run_15 : decode c_Lw_run 15 = .ok (.iconst 1, 1) := by decide +kernel
theorem d_Lw_run_16 : decode c_Lw_run 16 = .ok (.ireturn, 1) := by decide +kernel
theorem d_Lw_run_17 : decode c_Lw_run 17 = .ok (.astore 4, 2) := by decide +kernel
theorem d_Lw_run_19 : decode c_Lw_run 19 = .ok (.iconst 2, 1) := by decide +kernel
theorem d_Lw_run_20 : decode c_Lw_run 20 = .ok (.ireturn, 1) := by decide +kernel
theorem d_Lw_run_21 : decode c_Lw_run 21 = .ok (.iconst 0, 1) := by decide +kernel
theorem d_Lw_run_22 : decode c_Lw_run 22 = .ok (.ireturn, 1) := by decide +kernel
theorem d_Lw_figure_0 : decode c_Lw_figure 0 = .ok (.aload_n 2, 1) := by decide +kernel
theorem d_Lw_figure_1 : decode c_Lw_figure 1 = .ok (.iconst 0, 1) := by decide +kernel
theorem d_Lw_figure_2 : decode c_Lw_figure 2 = .ok (.aload_n 0, 1) := by decide +kernel
theorem d_Lw_figure_3 : decode c_Lw_figure 3 = .ok (.iload_n 1, 1) := by decide +kernel
theorem d_Lw_figure_4 : decode c_Lw_figure 4 = .ok (.invokevirtual 34, 3) := by decide +kernel
theorem d_Lw_figure_7 : decode c_Lw_figure 7 = .ok (.i2l, 1) := by decide +kernel
theorem d_Lw_figure_8 : decode c_Lw_figure 8 = .ok (.lastore, 1) := by decide +kernel
theorem d_Lw_figure_9 : decode c_Lw_figure 9 = .ok (.goto 6, 3) := by decide +kernel
theorem d_Lw_figure_12 : decode c_Lw_figure 12 = .ok (.astore_n 3, 1) := by decide +kernel
theorem d_Lw_figure_13 : decode c_Lw_figure 13 = .ok (.iconst 1, 1) := by decide +kernel
theorem d_Lw_figure_14 : decode c_Lw_figure 14 = .ok (.ireturn, 1) := by decide +kernel
theorem d_Lw_figure_15 : decode c_Lw_figure 15 = .ok (.iconst 0, 1) := by decide +kernel
theorem d_Lw_figure_16 : decode c_Lw_figure 16 = .ok (.ireturn, 1) := by decide +kernel
theorem d_Lw_law_0 : decode c_Lw_law 0 = .ok (.new 8, 3) := by decide +kernel
theorem d_Lw_law_3 : decode c_Lw_law 3 = .ok (.dup, 1) := by decide +kernel
theorem d_Lw_law_4 : decode c_Lw_law 4 = .ok (.invokespecial 37, 3) := by decide +kernel
theorem d_Lw_law_7 : decode c_Lw_law 7 = .ok (.astore_n 1, 1) := by decide +kernel
theorem d_Lw_law_8 : decode c_Lw_law 8 = .ok (.new 38, 3) := by decide +kernel
theorem d_Lw_law_11 : decode c_Lw_law 11 = .ok (.dup, 1) := by decide +kernel
theorem d_Lw_law_12 : decode c_Lw_law 12 = .ok (.invokespecial 40, 3) := by decide +kernel
theorem d_Lw_law_15 : decode c_Lw_law 15 = .ok (.astore_n 2, 1) := by decide +kernel
theorem d_Lw_law_16 : decode c_Lw_law 16 = .ok (.iconst 1, 1) := by decide +kernel
theorem d_Lw_law_17 : decode c_Lw_law 17 = .ok (.newarray .long, 2) := by decide +kernel
theorem d_Lw_law_19 : decode c_Lw_law 19 = .ok (.astore_n 3, 1) := by decide +kernel
theorem d_Lw_law_20 : decode c_Lw_law 20 = .ok (.iconst 0, 1) := by decide +kernel
theorem d_Lw_law_21 : decode c_Lw_law 21 = .ok (.istore 4, 2) := by decide +kernel
theorem d_Lw_law_23 : decode c_Lw_law 23 = .ok (.iload 4, 2) := by decide +kernel
theorem d_Lw_law_25 : decode c_Lw_law 25 = .ok (.aload_n 0, 1) := by decide +kernel
theorem d_Lw_law_26 : decode c_Lw_law 26 = .ok (.arraylength, 1) := by decide +kernel
theorem d_Lw_law_27 : decode c_Lw_law 27 = .ok (.iconst 5, 1) := by decide +kernel
theorem d_Lw_law_28 : decode c_Lw_law 28 = .ok (.isub, 1) := by decide +kernel
theorem d_Lw_law_29 : decode c_Lw_law 29 = .ok (.if_icmp .gt 519, 3) := by decide +kernel
theorem d_Lw_law_32 : decode c_Lw_law 32 = .ok (.aload_n 0, 1) := by decide +kernel
theorem d_Lw_law_33 : decode c_Lw_law 33 = .ok (.iload 4, 2) := by decide +kernel
theorem d_Lw_law_35 : decode c_Lw_law 35 = .ok (.iaload, 1) := by decide +kernel
theorem d_Lw_law_36 : decode c_Lw_law 36 = .ok (.bipush 15, 2) := by decide +kernel
theorem d_Lw_law_38 : decode c_Lw_law 38 = .ok (.iand, 1) := by decide +kernel
theorem d_Lw_law_39 : decode c_Lw_law 39 = .ok (.tableswitch 503 0 9 #[53, 80, 91, 135, 148, 242, 298, 366, 379, 447], 53) := by decide +kernel
theorem d_Lw_law_92 : decode c_Lw_law 92 = .ok (.aload_n 1, 1) := by decide +kernel
theorem d_Lw_law_93 : decode c_Lw_law 93 = .ok (.aload_n 0, 1) := by decide +kernel
theorem d_Lw_law_94 : decode c_Lw_law 94 = .ok (.iload 4, 2) := by decide +kernel
theorem d_Lw_law_96 : decode c_Lw_law 96 = .ok (.iconst 1, 1) := by decide +kernel
theorem d_Lw_law_97 : decode c_Lw_law 97 = .ok (.iadd, 1) := by decide +kernel
theorem d_Lw_law_98 : decode c_Lw_law 98 = .ok (.iaload, 1) := by decide +kernel
theorem d_Lw_law_99 : decode c_Lw_law 99 = .ok (.i2c, 1) := by decide +kernel
theorem d_Lw_law_100 : decode c_Lw_law 100 = .ok (.invokevirtual 41, 3) := by decide +kernel
theorem d_Lw_law_103 : decode c_Lw_law 103 = .ok (.aload_n 2, 1) := by decide +kernel
theorem d_Lw_law_104 : decode c_Lw_law 104 = .ok (.aload_n 0, 1) := by decide +kernel
theorem d_Lw_law_105 : decode c_Lw_law 105 = .ok (.iload 4, 2) := by decide +kernel
theorem d_Lw_law_107 : decode c_Lw_law 107 = .ok (.iconst 1, 1) := by decide +kernel
theorem d_Lw_law_108 : decode c_Lw_law 108 = .ok (.iadd, 1) := by decide +kernel
theorem d_Lw_law_109 : decode c_Lw_law 109 = .ok (.iaload, 1) := by decide +kernel
theorem d_Lw_law_110 : decode c_Lw_law 110 = .ok (.i2c, 1) := by decide +kernel
theorem d_Lw_law_111 : decode c_Lw_law 111 = .ok (.invokevirtual 45, 3) := by decide +kernel
theorem d_Lw_law_114 : decode c_Lw_law 114 = .ok (.if_icmp .eq 428, 3) := by decide +kernel
theorem d_Lw_law_117 : decode c_Lw_law 117 = .ok (.iconst 0, 1) := by decide +kernel
theorem d_Lw_law_118 : decode c_Lw_law 118 = .ok (.ireturn, 1) := by decide +kernel
theorem d_Lw_law_119 : decode c_Lw_law 119 = .ok (.aload_n 1, 1) := by decide +kernel
theorem d_Lw_law_120 : decode c_Lw_law 120 = .ok (.invokevirtual 46, 3) := by decide +kernel
theorem d_Lw_law_123 : decode c_Lw_law 123 = .ok (.aload_n 2, 1) := by decide +kernel
theorem d_Lw_law_124 : decode c_Lw_law 124 = .ok (.invokevirtual 49, 3) := by decide +kernel
theorem d_Lw_law_127 : decode c_Lw_law 127 = .ok (.goto 415, 3) := by decide +kernel
theorem d_Lw_law_130 : decode c_Lw_law 130 = .ok (.aload_n 1, 1) := by decide +kernel
theorem d_Lw_law_131 : decode c_Lw_law 131 = .ok (.aload_n 3, 1) := by decide +kernel
theorem d_Lw_law_132 : decode c_Lw_law 132 = .ok (.invokestatic 50, 3) := by decide +kernel
theorem d_Lw_law_135 : decode c_Lw_law 135 = .ok (.istore 5, 2) := by decide +kernel
theorem d_Lw_law_137 : decode c_Lw_law 137 = .ok (.aload_n 2, 1) := by decide +kernel
theorem d_Lw_law_138 : decode c_Lw_law 138 = .ok (.invokevirtual 55, 3) := by decide +kernel
theorem d_Lw_law_141 : decode c_Lw_law 141 = .ok (.istore 6, 2) := by decide +kernel
theorem d_Lw_law_143 : decode c_Lw_law 143 = .ok (.aload_n 2, 1) := by decide +kernel
theorem d_Lw_law_144 : decode c_Lw_law 144 = .ok (.invokevirtual 56, 3) := by decide +kernel
theorem d_Lw_law_147 : decode c_Lw_law 147 = .ok (.iload 5, 2) := by decide +kernel
theorem d_Lw_law_149 : decode c_Lw_law 149 = .ok (.if_icmp .eq 5, 3) := by decide +kernel
theorem d_Lw_law_152 : decode c_Lw_law 152 = .ok (.iconst 0, 1) := by decide +kernel
theorem d_Lw_law_153 : decode c_Lw_law 153 = .ok (.ireturn, 1) := by decide +kernel
theorem d_Lw_law_154 : decode c_Lw_law 154 = .ok (.iload 5, 2) := by decide +kernel
theorem d_Lw_law_156 : decode c_Lw_law 156 = .ok (.ifCond .ne 15, 3) := by decide +kernel
theorem d_Lw_law_159 : decode c_Lw_law 159 = .ok (.aload_n 3, 1) := by decide +kernel
theorem d_Lw_law_160 : decode c_Lw_law 160 = .ok (.iconst 0, 1) := by decide +kernel
theorem d_Lw_law_161 : decode c_Lw_law 161 = .ok (.laload, 1) := by decide +kernel
theorem d_Lw_law_162 : decode c_Lw_law 162 = .ok (.iload 6, 2) := by decide +kernel
theorem d_Lw_law_164 : decode c_Lw_law 164 = .ok (.i2l, 1) := by decide +kernel
theorem d_Lw_law_165 : decode c_Lw_law 165 = .ok (.lcmp, 1) := by decide +kernel
theorem d_Lw_law_166 : decode c_Lw_law 166 = .ok (.ifCond .eq 5, 3) := by decide +kernel
theorem d_Lw_law_169 : decode c_Lw_law 169 = .ok (.iconst 0, 1) := by decide +kernel
theorem d_Lw_law_170 : decode c_Lw_law 170 = .ok (.ireturn, 1) := by decide +kernel
theorem d_Lw_law_171 : decode c_Lw_law 171 = .ok (.goto 371, 3) := by decide +kernel
theorem d_Lw_law_174 : decode c_Lw_law 174 = .ok (.aload_n 1, 1) := by decide +kernel
theorem d_Lw_law_175 : decode c_Lw_law 175 = .ok (.invokevirtual 59, 3) := by decide +kernel
theorem d_Lw_law_178 : decode c_Lw_law 178 = .ok (.aload_n 2, 1) := by decide +kernel
theorem d_Lw_law_179 : decode c_Lw_law 179 = .ok (.invokevirtual 62, 3) := by decide +kernel
theorem d_Lw_law_182 : decode c_Lw_law 182 = .ok (.if_icmp .eq 360, 3) := by decide +kernel
theorem d_Lw_law_185 : decode c_Lw_law 185 = .ok (.iconst 0, 1) := by decide +kernel
theorem d_Lw_law_186 : decode c_Lw_law 186 = .ok (.ireturn, 1) := by decide +kernel
theorem d_Lw_law_187 : decode c_Lw_law 187 = .ok (.aload_n 1, 1) := by decide +kernel
theorem d_Lw_law_188 : decode c_Lw_law 188 = .ok (.aload_n 0, 1) := by decide +kernel
theorem d_Lw_law_189 : decode c_Lw_law 189 = .ok (.iload 4, 2) := by decide +kernel
theorem d_Lw_law_191 : decode c_Lw_law 191 = .ok (.iconst 1, 1) := by decide +kernel
theorem d_Lw_law_192 : decode c_Lw_law 192 = .ok (.iadd, 1) := by decide +kernel
theorem d_Lw_law_193 : decode c_Lw_law 193 = .ok (.iaload, 1) := by decide +kernel
theorem d_Lw_law_194 : decode c_Lw_law 194 = .ok (.i2c, 1) := by decide +kernel
theorem d_Lw_law_195 : decode c_Lw_law 195 = .ok (.aload_n 0, 1) := by decide +kernel
theorem d_Lw_law_196 : decode c_Lw_law 196 = .ok (.iload 4, 2) := by decide +kernel
theorem d_Lw_law_198 : decode c_Lw_law 198 = .ok (.iconst 2, 1) := by decide +kernel
theorem d_Lw_law_199 : decode c_Lw_law 199 = .ok (.iadd, 1) := by decide +kernel
theorem d_Lw_law_200 : decode c_Lw_law 200 = .ok (.iaload, 1) := by decide +kernel
theorem d_Lw_law_201 : decode c_Lw_law 201 = .ok (.aload_n 0, 1) := by decide +kernel
theorem d_Lw_law_202 : decode c_Lw_law 202 = .ok (.iload 4, 2) := by decide +kernel
theorem d_Lw_law_204 : decode c_Lw_law 204 = .ok (.iconst 3, 1) := by decide +kernel
theorem d_Lw_law_205 : decode c_Lw_law 205 = .ok (.iadd, 1) := by decide +kernel
theorem d_Lw_law_206 : decode c_Lw_law 206 = .ok (.iaload, 1) := by decide +kernel
theorem d_Lw_law_207 : decode c_Lw_law 207 = .ok (.aload_n 0, 1) := by decide +kernel
theorem d_Lw_law_208 : decode c_Lw_law 208 = .ok (.iload 4, 2) := by decide +kernel
theorem d_Lw_law_210 : decode c_Lw_law 210 = .ok (.iconst 4, 1) := by decide +kernel
theorem d_Lw_law_211 : decode c_Lw_law 211 = .ok (.iadd, 1) := by decide +kernel
theorem d_Lw_law_212 : decode c_Lw_law 212 = .ok (.iaload, 1) := by decide +kernel
theorem d_Lw_law_213 : decode c_Lw_law 213 = .ok (.aload_n 3, 1) := by decide +kernel
theorem d_Lw_law_214 : decode c_Lw_law 214 = .ok (.invokestatic 63, 3) := by decide +kernel
theorem d_Lw_law_217 : decode c_Lw_law 217 = .ok (.istore 5, 2) := by decide +kernel
theorem d_Lw_law_219 : decode c_Lw_law 219 = .ok (.aload_n 2, 1) := by decide +kernel
theorem d_Lw_law_220 : decode c_Lw_law 220 = .ok (.aload_n 0, 1) := by decide +kernel
theorem d_Lw_law_221 : decode c_Lw_law 221 = .ok (.iload 4, 2) := by decide +kernel
theorem d_Lw_law_223 : decode c_Lw_law 223 = .ok (.iconst 1, 1) := by decide +kernel
theorem d_Lw_law_224 : decode c_Lw_law 224 = .ok (.iadd, 1) := by decide +kernel
theorem d_Lw_law_225 : decode c_Lw_law 225 = .ok (.iaload, 1) := by decide +kernel
theorem d_Lw_law_226 : decode c_Lw_law 226 = .ok (.i2c, 1) := by decide +kernel
theorem d_Lw_law_227 : decode c_Lw_law 227 = .ok (.aload_n 0, 1) := by decide +kernel
theorem d_Lw_law_228 : decode c_Lw_law 228 = .ok (.iload 4, 2) := by decide +kernel
theorem d_Lw_law_230 : decode c_Lw_law 230 = .ok (.iconst 2, 1) := by decide +kernel
theorem d_Lw_law_231 : decode c_Lw_law 231 = .ok (.iadd, 1) := by decide +kernel
theorem d_Lw_law_232 : decode c_Lw_law 232 = .ok (.iaload, 1) := by decide +kernel
theorem d_Lw_law_233 : decode c_Lw_law 233 = .ok (.aload_n 0, 1) := by decide +kernel
theorem d_Lw_law_234 : decode c_Lw_law 234 = .ok (.iload 4, 2) := by decide +kernel
theorem d_Lw_law_236 : decode c_Lw_law 236 = .ok (.iconst 3, 1) := by decide +kernel
theorem d_Lw_law_237 : decode c_Lw_law 237 = .ok (.iadd, 1) := by decide +kernel
theorem d_Lw_law_238 : decode c_Lw_law 238 = .ok (.iaload, 1) := by decide +kernel
theorem d_Lw_law_239 : decode c_Lw_law 239 = .ok (.aload_n 0, 1) := by decide +kernel
theorem d_Lw_law_240 : decode c_Lw_law 240 = .ok (.iload 4, 2) := by decide +kernel
theorem d_Lw_law_242 : decode c_Lw_law 242 = .ok (.iconst 4, 1) := by decide +kernel
theorem d_Lw_law_243 : decode c_Lw_law 243 = .ok (.iadd, 1) := by decide +kernel
theorem d_Lw_law_244 : decode c_Lw_law 244 = .ok (.iaload, 1) := by decide +kernel
theorem d_Lw_law_245 : decode c_Lw_law 245 = .ok (.invokevirtual 66, 3) := by decide +kernel
theorem d_Lw_law_248 : decode c_Lw_law 248 = .ok (.istore 6, 2) := by decide +kernel
theorem d_Lw_law_250 : decode c_Lw_law 250 = .ok (.aload_n 2, 1) := by decide +kernel
theorem d_Lw_law_251 : decode c_Lw_law 251 = .ok (.invokevirtual 56, 3) := by decide +kernel
theorem d_Lw_law_254 : decode c_Lw_law 254 = .ok (.iload 5, 2) := by decide +kernel
theorem d_Lw_law_256 : decode c_Lw_law 256 = .ok (.if_icmp .eq 5, 3) := by decide +kernel
theorem d_Lw_law_259 : decode c_Lw_law 259 = .ok (.iconst 0, 1) := by decide +kernel
theorem d_Lw_law_260 : decode c_Lw_law 260 = .ok (.ireturn, 1) := by decide +kernel
theorem d_Lw_law_261 : decode c_Lw_law 261 = .ok (.iload 5, 2) := by decide +kernel
theorem d_Lw_law_263 : decode c_Lw_law 263 = .ok (.ifCond .ne 15, 3) := by decide +kernel
theorem d_Lw_law_266 : decode c_Lw_law 266 = .ok (.aload_n 3, 1) := by decide +kernel
theorem d_Lw_law_267 : decode c_Lw_law 267 = .ok (.iconst 0, 1) := by decide +kernel
theorem d_Lw_law_268 : decode c_Lw_law 268 = .ok (.laload, 1) := by decide +kernel
theorem d_Lw_law_269 : decode c_Lw_law 269 = .ok (.iload 6, 2) := by decide +kernel
theorem d_Lw_law_271 : decode c_Lw_law 271 = .ok (.i2l, 1) := by decide +kernel
theorem d_Lw_law_272 : decode c_Lw_law 272 = .ok (.lcmp, 1) := by decide +kernel
theorem d_Lw_law_273 : decode c_Lw_law 273 = .ok (.ifCond .eq 5, 3) := by decide +kernel
theorem d_Lw_law_276 : decode c_Lw_law 276 = .ok (.iconst 0, 1) := by decide +kernel
theorem d_Lw_law_277 : decode c_Lw_law 277 = .ok (.ireturn, 1) := by decide +kernel
theorem d_Lw_law_278 : decode c_Lw_law 278 = .ok (.goto 264, 3) := by decide +kernel
theorem d_Lw_law_281 : decode c_Lw_law 281 = .ok (.aload_n 1, 1) := by decide +kernel
theorem d_Lw_law_282 : decode c_Lw_law 282 = .ok (.aload_n 0, 1) := by decide +kernel
theorem d_Lw_law_283 : decode c_Lw_law 283 = .ok (.iload 4, 2) := by decide +kernel
theorem d_Lw_law_285 : decode c_Lw_law 285 = .ok (.iconst 1, 1) := by decide +kernel
theorem d_Lw_law_286 : decode c_Lw_law 286 = .ok (.iadd, 1) := by decide +kernel
theorem d_Lw_law_287 : decode c_Lw_law 287 = .ok (.iaload, 1) := by decide +kernel
theorem d_Lw_law_288 : decode c_Lw_law 288 = .ok (.aload_n 3, 1) := by decide +kernel
theorem d_Lw_law_289 : decode c_Lw_law 289 = .ok (.invokestatic 67, 3) := by decide +kernel
theorem d_Lw_law_292 : decode c_Lw_law 292 = .ok (.istore 5, 2) := by decide +kernel
theorem d_Lw_law_294 : decode c_Lw_law 294 = .ok (.aload_n 2, 1) := by decide +kernel
theorem d_Lw_law_295 : decode c_Lw_law 295 = .ok (.aload_n 0, 1) := by decide +kernel
theorem d_Lw_law_296 : decode c_Lw_law 296 = .ok (.iload 4, 2) := by decide +kernel
theorem d_Lw_law_298 : decode c_Lw_law 298 = .ok (.iconst 1, 1) := by decide +kernel
theorem d_Lw_law_299 : decode c_Lw_law 299 = .ok (.iadd, 1) := by decide +kernel
theorem d_Lw_law_300 : decode c_Lw_law 300 = .ok (.iaload, 1) := by decide +kernel
theorem d_Lw_law_301 : decode c_Lw_law 301 = .ok (.invokevirtual 70, 3) := by decide +kernel
theorem d_Lw_law_304 : decode c_Lw_law 304 = .ok (.istore 6, 2) := by decide +kernel
theorem d_Lw_law_306 : decode c_Lw_law 306 = .ok (.aload_n 2, 1) := by decide +kernel
theorem d_Lw_law_307 : decode c_Lw_law 307 = .ok (.invokevirtual 56, 3) := by decide +kernel
theorem d_Lw_law_310 : decode c_Lw_law 310 = .ok (.iload 5, 2) := by decide +kernel
theorem d_Lw_law_312 : decode c_Lw_law 312 = .ok (.if_icmp .eq 5, 3) := by decide +kernel
theorem d_Lw_law_315 : decode c_Lw_law 315 = .ok (.iconst 0, 1) := by decide +kernel
theorem d_Lw_law_316 : decode c_Lw_law 316 = .ok (.ireturn, 1) := by decide +kernel
theorem d_Lw_law_317 : decode c_Lw_law 317 = .ok (.iload 5, 2) := by decide +kernel
theorem d_Lw_law_319 : decode c_Lw_law 319 = .ok (.ifCond .ne 15, 3) := by decide +kernel
theorem d_Lw_law_322 : decode c_Lw_law 322 = .ok (.aload_n 3, 1) := by decide +kernel
theorem d_Lw_law_323 : decode c_Lw_law 323 = .ok (.iconst 0, 1) := by decide +kernel
theorem d_Lw_law_324 : decode c_Lw_law 324 = .ok (.laload, 1) := by decide +kernel
theorem d_Lw_law_325 : decode c_Lw_law 325 = .ok (.iload 6, 2) := by decide +kernel
theorem d_Lw_law_327 : decode c_Lw_law 327 = .ok (.i2l, 1) := by decide +kernel
theorem d_Lw_law_328 : decode c_Lw_law 328 = .ok (.lcmp, 1) := by decide +kernel
theorem d_Lw_law_329 : decode c_Lw_law 329 = .ok (.ifCond .eq 5, 3) := by decide +kernel
theorem d_Lw_law_332 : decode c_Lw_law 332 = .ok (.iconst 0, 1) := by decide +kernel
theorem d_Lw_law_333 : decode c_Lw_law 333 = .ok (.ireturn, 1) := by decide +kernel
theorem d_Lw_law_334 : decode c_Lw_law 334 = .ok (.goto 208, 3) := by decide +kernel
theorem d_Lw_law_337 : decode c_Lw_law 337 = .ok (.aload_n 1, 1) := by decide +kernel
theorem d_Lw_law_338 : decode c_Lw_law 338 = .ok (.aload_n 0, 1) := by decide +kernel
theorem d_Lw_law_339 : decode c_Lw_law 339 = .ok (.iload 4, 2) := by decide +kernel
theorem d_Lw_law_341 : decode c_Lw_law 341 = .ok (.iconst 1, 1) := by decide +kernel
theorem d_Lw_law_342 : decode c_Lw_law 342 = .ok (.iadd, 1) := by decide +kernel
theorem d_Lw_law_343 : decode c_Lw_law 343 = .ok (.iaload, 1) := by decide +kernel
theorem d_Lw_law_344 : decode c_Lw_law 344 = .ok (.aload_n 0, 1) := by decide +kernel
theorem d_Lw_law_345 : decode c_Lw_law 345 = .ok (.iload 4, 2) := by decide +kernel
theorem d_Lw_law_347 : decode c_Lw_law 347 = .ok (.iconst 2, 1) := by decide +kernel
theorem d_Lw_law_348 : decode c_Lw_law 348 = .ok (.iadd, 1) := by decide +kernel
theorem d_Lw_law_349 : decode c_Lw_law 349 = .ok (.iaload, 1) := by decide +kernel
theorem d_Lw_law_350 : decode c_Lw_law 350 = .ok (.aload_n 3, 1) := by decide +kernel
theorem d_Lw_law_351 : decode c_Lw_law 351 = .ok (.invokestatic 71, 3) := by decide +kernel
theorem d_Lw_law_354 : decode c_Lw_law 354 = .ok (.istore 5, 2) := by decide +kernel
theorem d_Lw_law_356 : decode c_Lw_law 356 = .ok (.aload_n 2, 1) := by decide +kernel
theorem d_Lw_law_357 : decode c_Lw_law 357 = .ok (.aload_n 0, 1) := by decide +kernel
theorem d_Lw_law_358 : decode c_Lw_law 358 = .ok (.iload 4, 2) := by decide +kernel
theorem d_Lw_law_360 : decode c_Lw_law 360 = .ok (.iconst 1, 1) := by decide +kernel
theorem d_Lw_law_361 : decode c_Lw_law 361 = .ok (.iadd, 1) := by decide +kernel
theorem d_Lw_law_362 : decode c_Lw_law 362 = .ok (.iaload, 1) := by decide +kernel
theorem d_Lw_law_363 : decode c_Lw_law 363 = .ok (.aload_n 0, 1) := by decide +kernel
theorem d_Lw_law_364 : decode c_Lw_law 364 = .ok (.iload 4, 2) := by decide +kernel
theorem d_Lw_law_366 : decode c_Lw_law 366 = .ok (.iconst 2, 1) := by decide +kernel
theorem d_Lw_law_367 : decode c_Lw_law 367 = .ok (.iadd, 1) := by decide +kernel
theorem d_Lw_law_368 : decode c_Lw_law 368 = .ok (.iaload, 1) := by decide +kernel
theorem d_Lw_law_369 : decode c_Lw_law 369 = .ok (.invokevirtual 74, 3) := by decide +kernel
theorem d_Lw_law_372 : decode c_Lw_law 372 = .ok (.istore 6, 2) := by decide +kernel
theorem d_Lw_law_374 : decode c_Lw_law 374 = .ok (.aload_n 2, 1) := by decide +kernel
theorem d_Lw_law_375 : decode c_Lw_law 375 = .ok (.invokevirtual 56, 3) := by decide +kernel
theorem d_Lw_law_378 : decode c_Lw_law 378 = .ok (.iload 5, 2) := by decide +kernel
theorem d_Lw_law_380 : decode c_Lw_law 380 = .ok (.if_icmp .eq 5, 3) := by decide +kernel
theorem d_Lw_law_383 : decode c_Lw_law 383 = .ok (.iconst 0, 1) := by decide +kernel
theorem d_Lw_law_384 : decode c_Lw_law 384 = .ok (.ireturn, 1) := by decide +kernel
theorem d_Lw_law_385 : decode c_Lw_law 385 = .ok (.iload 5, 2) := by decide +kernel
theorem d_Lw_law_387 : decode c_Lw_law 387 = .ok (.ifCond .ne 15, 3) := by decide +kernel
theorem d_Lw_law_390 : decode c_Lw_law 390 = .ok (.aload_n 3, 1) := by decide +kernel
theorem d_Lw_law_391 : decode c_Lw_law 391 = .ok (.iconst 0, 1) := by decide +kernel
theorem d_Lw_law_392 : decode c_Lw_law 392 = .ok (.laload, 1) := by decide +kernel
theorem d_Lw_law_393 : decode c_Lw_law 393 = .ok (.iload 6, 2) := by decide +kernel
theorem d_Lw_law_395 : decode c_Lw_law 395 = .ok (.i2l, 1) := by decide +kernel
theorem d_Lw_law_396 : decode c_Lw_law 396 = .ok (.lcmp, 1) := by decide +kernel
theorem d_Lw_law_397 : decode c_Lw_law 397 = .ok (.ifCond .eq 5, 3) := by decide +kernel
theorem d_Lw_law_400 : decode c_Lw_law 400 = .ok (.iconst 0, 1) := by decide +kernel
theorem d_Lw_law_401 : decode c_Lw_law 401 = .ok (.ireturn, 1) := by decide +kernel
theorem d_Lw_law_402 : decode c_Lw_law 402 = .ok (.goto 140, 3) := by decide +kernel
theorem d_Lw_law_405 : decode c_Lw_law 405 = .ok (.aload_n 1, 1) := by decide +kernel
theorem d_Lw_law_406 : decode c_Lw_law 406 = .ok (.invokevirtual 75, 3) := by decide +kernel
theorem d_Lw_law_409 : decode c_Lw_law 409 = .ok (.aload_n 2, 1) := by decide +kernel
theorem d_Lw_law_410 : decode c_Lw_law 410 = .ok (.invokevirtual 78, 3) := by decide +kernel
theorem d_Lw_law_413 : decode c_Lw_law 413 = .ok (.if_icmp .eq 129, 3) := by decide +kernel
theorem d_Lw_law_416 : decode c_Lw_law 416 = .ok (.iconst 0, 1) := by decide +kernel
theorem d_Lw_law_417 : decode c_Lw_law 417 = .ok (.ireturn, 1) := by decide +kernel
theorem d_Lw_law_418 : decode c_Lw_law 418 = .ok (.aload_n 1, 1) := by decide +kernel
theorem d_Lw_law_419 : decode c_Lw_law 419 = .ok (.aload_n 0, 1) := by decide +kernel
theorem d_Lw_law_420 : decode c_Lw_law 420 = .ok (.iload 4, 2) := by decide +kernel
theorem d_Lw_law_422 : decode c_Lw_law 422 = .ok (.iconst 1, 1) := by decide +kernel
theorem d_Lw_law_423 : decode c_Lw_law 423 = .ok (.iadd, 1) := by decide +kernel
theorem d_Lw_law_424 : decode c_Lw_law 424 = .ok (.iaload, 1) := by decide +kernel
theorem d_Lw_law_425 : decode c_Lw_law 425 = .ok (.aload_n 0, 1) := by decide +kernel
theorem d_Lw_law_426 : decode c_Lw_law 426 = .ok (.iload 4, 2) := by decide +kernel
theorem d_Lw_law_428 : decode c_Lw_law 428 = .ok (.iconst 2, 1) := by decide +kernel
theorem d_Lw_law_429 : decode c_Lw_law 429 = .ok (.iadd, 1) := by decide +kernel
theorem d_Lw_law_430 : decode c_Lw_law 430 = .ok (.iaload, 1) := by decide +kernel
theorem d_Lw_law_431 : decode c_Lw_law 431 = .ok (.aload_n 3, 1) := by decide +kernel
theorem d_Lw_law_432 : decode c_Lw_law 432 = .ok (.invokestatic 79, 3) := by decide +kernel
theorem d_Lw_law_435 : decode c_Lw_law 435 = .ok (.istore 5, 2) := by decide +kernel
theorem d_Lw_law_437 : decode c_Lw_law 437 = .ok (.aload_n 2, 1) := by decide +kernel
theorem d_Lw_law_438 : decode c_Lw_law 438 = .ok (.aload_n 0, 1) := by decide +kernel
theorem d_Lw_law_439 : decode c_Lw_law 439 = .ok (.iload 4, 2) := by decide +kernel
theorem d_Lw_law_441 : decode c_Lw_law 441 = .ok (.iconst 1, 1) := by decide +kernel
theorem d_Lw_law_442 : decode c_Lw_law 442 = .ok (.iadd, 1) := by decide +kernel
theorem d_Lw_law_443 : decode c_Lw_law 443 = .ok (.iaload, 1) := by decide +kernel
theorem d_Lw_law_444 : decode c_Lw_law 444 = .ok (.aload_n 0, 1) := by decide +kernel
theorem d_Lw_law_445 : decode c_Lw_law 445 = .ok (.iload 4, 2) := by decide +kernel
theorem d_Lw_law_447 : decode c_Lw_law 447 = .ok (.iconst 2, 1) := by decide +kernel
theorem d_Lw_law_448 : decode c_Lw_law 448 = .ok (.iadd, 1) := by decide +kernel
theorem d_Lw_law_449 : decode c_Lw_law 449 = .ok (.iaload, 1) := by decide +kernel
theorem d_Lw_law_450 : decode c_Lw_law 450 = .ok (.invokevirtual 81, 3) := by decide +kernel
theorem d_Lw_law_453 : decode c_Lw_law 453 = .ok (.istore 6, 2) := by decide +kernel
theorem d_Lw_law_455 : decode c_Lw_law 455 = .ok (.aload_n 2, 1) := by decide +kernel
theorem d_Lw_law_456 : decode c_Lw_law 456 = .ok (.invokevirtual 56, 3) := by decide +kernel
theorem d_Lw_law_459 : decode c_Lw_law 459 = .ok (.iload 5, 2) := by decide +kernel
theorem d_Lw_law_461 : decode c_Lw_law 461 = .ok (.if_icmp .eq 5, 3) := by decide +kernel
theorem d_Lw_law_464 : decode c_Lw_law 464 = .ok (.iconst 0, 1) := by decide +kernel
theorem d_Lw_law_465 : decode c_Lw_law 465 = .ok (.ireturn, 1) := by decide +kernel
theorem d_Lw_law_466 : decode c_Lw_law 466 = .ok (.iload 5, 2) := by decide +kernel
theorem d_Lw_law_468 : decode c_Lw_law 468 = .ok (.ifCond .ne 15, 3) := by decide +kernel
theorem d_Lw_law_471 : decode c_Lw_law 471 = .ok (.aload_n 3, 1) := by decide +kernel
theorem d_Lw_law_472 : decode c_Lw_law 472 = .ok (.iconst 0, 1) := by decide +kernel
theorem d_Lw_law_473 : decode c_Lw_law 473 = .ok (.laload, 1) := by decide +kernel
theorem d_Lw_law_474 : decode c_Lw_law 474 = .ok (.iload 6, 2) := by decide +kernel
theorem d_Lw_law_476 : decode c_Lw_law 476 = .ok (.i2l, 1) := by decide +kernel
theorem d_Lw_law_477 : decode c_Lw_law 477 = .ok (.lcmp, 1) := by decide +kernel
theorem d_Lw_law_478 : decode c_Lw_law 478 = .ok (.ifCond .eq 5, 3) := by decide +kernel
theorem d_Lw_law_481 : decode c_Lw_law 481 = .ok (.iconst 0, 1) := by decide +kernel
theorem d_Lw_law_482 : decode c_Lw_law 482 = .ok (.ireturn, 1) := by decide +kernel
theorem d_Lw_law_483 : decode c_Lw_law 483 = .ok (.goto 59, 3) := by decide +kernel
theorem d_Lw_law_486 : decode c_Lw_law 486 = .ok (.aload_n 1, 1) := by decide +kernel
theorem d_Lw_law_487 : decode c_Lw_law 487 = .ok (.aload_n 0, 1) := by decide +kernel
theorem d_Lw_law_488 : decode c_Lw_law 488 = .ok (.iload 4, 2) := by decide +kernel
theorem d_Lw_law_490 : decode c_Lw_law 490 = .ok (.iconst 1, 1) := by decide +kernel
theorem d_Lw_law_491 : decode c_Lw_law 491 = .ok (.iadd, 1) := by decide +kernel
theorem d_Lw_law_492 : decode c_Lw_law 492 = .ok (.iaload, 1) := by decide +kernel
theorem d_Lw_law_493 : decode c_Lw_law 493 = .ok (.aload_n 3, 1) := by decide +kernel
theorem d_Lw_law_494 : decode c_Lw_law 494 = .ok (.invokestatic 82, 3) := by decide +kernel
theorem d_Lw_law_497 : decode c_Lw_law 497 = .ok (.istore 5, 2) := by decide +kernel
theorem d_Lw_law_499 : decode c_Lw_law 499 = .ok (.aload_n 2, 1) := by decide +kernel
theorem d_Lw_law_500 : decode c_Lw_law 500 = .ok (.aload_n 0, 1) := by decide +kernel
theorem d_Lw_law_501 : decode c_Lw_law 501 = .ok (.iload 4, 2) := by decide +kernel
theorem d_Lw_law_503 : decode c_Lw_law 503 = .ok (.iconst 1, 1) := by decide +kernel
theorem d_Lw_law_504 : decode c_Lw_law 504 = .ok (.iadd, 1) := by decide +kernel
theorem d_Lw_law_505 : decode c_Lw_law 505 = .ok (.iaload, 1) := by decide +kernel
theorem d_Lw_law_506 : decode c_Lw_law 506 = .ok (.invokevirtual 84, 3) := by decide +kernel
theorem d_Lw_law_509 : decode c_Lw_law 509 = .ok (.istore 6, 2) := by decide +kernel
theorem d_Lw_law_511 : decode c_Lw_law 511 = .ok (.aload_n 2, 1) := by decide +kernel
theorem d_Lw_law_512 : decode c_Lw_law 512 = .ok (.invokevirtual 56, 3) := by decide +kernel
theorem d_Lw_law_515 : decode c_Lw_law 515 = .ok (.iload 5, 2) := by decide +kernel
theorem d_Lw_law_517 : decode c_Lw_law 517 = .ok (.if_icmp .eq 5, 3) := by decide +kernel
theorem d_Lw_law_520 : decode c_Lw_law 520 = .ok (.iconst 0, 1) := by decide +kernel
theorem d_Lw_law_521 : decode c_Lw_law 521 = .ok (.ireturn, 1) := by decide +kernel
theorem d_Lw_law_522 : decode c_Lw_law 522 = .ok (.iload 5, 2) := by decide +kernel
theorem d_Lw_law_524 : decode c_Lw_law 524 = .ok (.ifCond .ne 15, 3) := by decide +kernel
theorem d_Lw_law_527 : decode c_Lw_law 527 = .ok (.aload_n 3, 1) := by decide +kernel
theorem d_Lw_law_528 : decode c_Lw_law 528 = .ok (.iconst 0, 1) := by decide +kernel
theorem d_Lw_law_529 : decode c_Lw_law 529 = .ok (.laload, 1) := by decide +kernel
theorem d_Lw_law_530 : decode c_Lw_law 530 = .ok (.iload 6, 2) := by decide +kernel
theorem d_Lw_law_532 : decode c_Lw_law 532 = .ok (.i2l, 1) := by decide +kernel
theorem d_Lw_law_533 : decode c_Lw_law 533 = .ok (.lcmp, 1) := by decide +kernel
theorem d_Lw_law_534 : decode c_Lw_law 534 = .ok (.ifCond .eq 5, 3) := by decide +kernel
theorem d_Lw_law_537 : decode c_Lw_law 537 = .ok (.iconst 0, 1) := by decide +kernel
theorem d_Lw_law_538 : decode c_Lw_law 538 = .ok (.ireturn, 1) := by decide +kernel
theorem d_Lw_law_539 : decode c_Lw_law 539 = .ok (.goto 3, 3) := by decide +kernel
theorem d_Lw_law_542 : decode c_Lw_law 542 = .ok (.iinc 4 5, 3) := by decide +kernel
theorem d_Lw_law_545 : decode c_Lw_law 545 = .ok (.goto (-522), 3) := by decide +kernel
theorem d_Lw_law_548 : decode c_Lw_law 548 = .ok (.iconst 1, 1) := by decide +kernel
theorem d_Lw_law_549 : decode c_Lw_law 549 = .ok (.ireturn, 1) := by decide +kernel
