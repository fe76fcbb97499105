theorem md_W_receive_0 : decode mc_W_receive 0 = .ok (.aload 6, 2) := by decide +kernel
theorem md_W_receive_2 : decode mc_W_receive 2 = .ok (.iconst 0, 1) := by decide +kernel
theorem md_W_receive_3 : decode mc_W_receive 3 = .ok (.aload_n 0, 1) := by decide +kernel
theorem md_W_receive_4 : decode mc_W_receive 4 = .ok (.iload_n 1, 1) := by decide +kernel
theorem md_W_receive_5 : decode mc_W_receive 5 = .ok (.iload_n 2, 1) := by decide +kernel
theorem md_W_receive_6 : decode mc_W_receive 6 = .ok (.iload_n 3, 1) := by decide +kernel
theorem md_W_receive_7 : decode mc_W_receive 7 = .ok (.iload 4, 2) := by decide +kernel
theorem md_W_receive_9 : decode mc_W_receive 9 = .ok (.iload 5, 2) := by decide +kernel
theorem md_W_receive_11 : decode mc_W_receive 11 = .ok (.invokevirtual 7, 3) := by decide +kernel
theorem md_W_receive_14 : decode mc_W_receive 14 = .ok (.i2l, 1) := by decide +kernel
theorem md_W_receive_15 : decode mc_W_receive 15 = .ok (.lastore, 1) := by decide +kernel
theorem md_W_receive_16 : decode mc_W_receive 16 = .ok (.goto 7, 3) := by decide +kernel
theorem md_W_receive_19 : decode mc_W_receive 19 = .ok (.astore 7, 2) := by decide +kernel
theorem md_W_receive_21 : decode mc_W_receive 21 = .ok (.iconst 1, 1) := by decide +kernel
theorem md_W_receive_22 : decode mc_W_receive 22 = .ok (.ireturn, 1) := by decide +kernel
theorem md_W_receive_23 : decode mc_W_receive 23 = .ok (.iconst 0, 1) := by decide +kernel
theorem md_W_receive_24 : decode mc_W_receive 24 = .ok (.ireturn, 1) := by decide +kernel
theorem md_W_status_0 : decode mc_W_status 0 = .ok (.aload_n 3, 1) := by decide +kernel
theorem md_W_status_1 : decode mc_W_status 1 = .ok (.iconst 0, 1) := by decide +kernel
theorem md_W_status_2 : decode mc_W_status 2 = .ok (.aload_n 0, 1) := by decide +kernel
theorem md_W_status_3 : decode mc_W_status 3 = .ok (.iload_n 1, 1) := by decide +kernel
theorem md_W_status_4 : decode mc_W_status 4 = .ok (.iload_n 2, 1) := by decide +kernel
theorem md_W_status_5 : decode mc_W_status 5 = .ok (.invokevirtual 15, 3) := by decide +kernel
theorem md_W_status_8 : decode mc_W_status 8 = .ok (.i2l, 1) := by decide +kernel
theorem md_W_status_9 : decode mc_W_status 9 = .ok (.lastore, 1) := by decide +kernel
theorem md_W_status_10 : decode mc_W_status 10 = .ok (.goto 7, 3) := by decide +kernel
theorem md_W_status_13 : decode mc_W_status 13 = .ok (.astore 4, 2) := by decide +kernel
theorem md_W_status_15 : decode mc_W_status 15 = .ok (.iconst 1, 1) := by decide +kernel
theorem md_W_status_16 : decode mc_W_status 16 = .ok (.ireturn, 1) := by decide +kernel
theorem md_W_status_17 : decode mc_W_status 17 = .ok (.iconst 0, 1) := by decide +kernel
theorem md_W_status_18 : decode mc_W_status 18 = .ok (.ireturn, 1) := by decide +kernel
theorem md_W_answer_0 : decode mc_W_answer 0 = .ok (.aload_n 3, 1) := by decide +kernel
theorem md_W_answer_1 : decode mc_W_answer 1 = .ok (.iconst 0, 1) := by decide +kernel
theorem md_W_answer_2 : decode mc_W_answer 2 = .ok (.aload_n 0, 1) := by decide +kernel
theorem md_W_answer_3 : decode mc_W_answer 3 = .ok (.iload_n 1, 1) := by decide +kernel
theorem md_W_answer_4 : decode mc_W_answer 4 = .ok (.iload_n 2, 1) := by decide +kernel
theorem md_W_answer_5 : decode mc_W_answer 5 = .ok (.invokevirtual 19, 3) := by decide +kernel
theorem md_W_answer_8 : decode mc_W_answer 8 = .ok (.i2l, 1) := by decide +kernel
theorem md_W_answer_9 : decode mc_W_answer 9 = .ok (.lastore, 1) := by decide +kernel
theorem md_W_answer_10 : decode mc_W_answer 10 = .ok (.goto 7, 3) := by decide +kernel
theorem md_W_answer_13 : decode mc_W_answer 13 = .ok (.astore 4, 2) := by decide +kernel
theorem md_W_answer_15 : decode mc_W_answer 15 = .ok (.iconst 1, 1) := by decide +kernel
theorem md_W_answer_16 : decode mc_W_answer 16 = .ok (.ireturn, 1) := by decide +kernel
theorem md_W_answer_17 : decode mc_W_answer 17 = .ok (.iconst 0, 1) := by decide +kernel
theorem md_W_answer_18 : decode mc_W_answer 18 = .ok (.ireturn, 1) := by decide +kernel
theorem md_W_tick_0 : decode mc_W_tick 0 = .ok (.aload_n 2, 1) := by decide +kernel
theorem md_W_tick_1 : decode mc_W_tick 1 = .ok (.iconst 0, 1) := by decide +kernel
theorem md_W_tick_2 : decode mc_W_tick 2 = .ok (.aload_n 0, 1) := by decide +kernel
theorem md_W_tick_3 : decode mc_W_tick 3 = .ok (.iload_n 1, 1) := by decide +kernel
theorem md_W_tick_4 : decode mc_W_tick 4 = .ok (.invokevirtual 22, 3) := by decide +kernel
theorem md_W_tick_7 : decode mc_W_tick 7 = .ok (.i2l, 1) := by decide +kernel
theorem md_W_tick_8 : decode mc_W_tick 8 = .ok (.lastore, 1) := by decide +kernel
theorem md_W_tick_9 : decode mc_W_tick 9 = .ok (.goto 6, 3) := by decide +kernel
theorem md_W_tick_12 : decode mc_W_tick 12 = .ok (.astore_n 3, 1) := by decide +kernel
theorem md_W_tick_13 : decode mc_W_tick 13 = .ok (.iconst 1, 1) := by decide +kernel
theorem md_W_tick_14 : decode mc_W_tick 14 = .ok (.ireturn, 1) := by decide +kernel
theorem md_W_tick_15 : decode mc_W_tick 15 = .ok (.iconst 0, 1) := by decide +kernel
theorem md_W_tick_16 : decode mc_W_tick 16 = .ok (.ireturn, 1) := by decide +kernel
theorem md_W_skip_0 : decode mc_W_skip 0 = .ok (.aload_n 2, 1) := by decide +kernel
theorem md_W_skip_1 : decode mc_W_skip 1 = .ok (.iconst 0, 1) := by decide +kernel
theorem md_W_skip_2 : decode mc_W_skip 2 = .ok (.aload_n 0, 1) := by decide +kernel
theorem md_W_skip_3 : decode mc_W_skip 3 = .ok (.iload_n 1, 1) := by decide +kernel
theorem md_W_skip_4 : decode mc_W_skip 4 = .ok (.invokevirtual 26, 3) := by decide +kernel
theorem md_W_skip_7 : decode mc_W_skip 7 = .ok (.i2l, 1) := by decide +kernel
theorem md_W_skip_8 : decode mc_W_skip 8 = .ok (.lastore, 1) := by decide +kernel
theorem md_W_skip_9 : decode mc_W_skip 9 = .ok (.goto 6, 3) := by decide +kernel
theorem md_W_skip_12 : decode mc_W_skip 12 = .ok (.astore_n 3, 1) := by decide +kernel
theorem md_W_skip_13 : decode mc_W_skip 13 = .ok (.iconst 1, 1) := by decide +kernel
theorem md_W_skip_14 : decode mc_W_skip 14 = .ok (.ireturn, 1) := by decide +kernel
theorem md_W_skip_15 : decode mc_W_skip 15 = .ok (.iconst 0, 1) := by decide +kernel
theorem md_W_skip_16 : decode mc_W_skip 16 = .ok (.ireturn, 1) := by decide +kernel
theorem md_W_cut_0 : decode mc_W_cut 0 = .ok (.aload_n 2, 1) := by decide +kernel
theorem md_W_cut_1 : decode mc_W_cut 1 = .ok (.iconst 0, 1) := by decide +kernel
theorem md_W_cut_2 : decode mc_W_cut 2 = .ok (.aload_n 0, 1) := by decide +kernel
theorem md_W_cut_3 : decode mc_W_cut 3 = .ok (.iload_n 1, 1) := by decide +kernel
theorem md_W_cut_4 : decode mc_W_cut 4 = .ok (.invokevirtual 29, 3) := by decide +kernel
theorem md_W_cut_7 : decode mc_W_cut 7 = .ok (.i2l, 1) := by decide +kernel
theorem md_W_cut_8 : decode mc_W_cut 8 = .ok (.lastore, 1) := by decide +kernel
theorem md_W_cut_9 : decode mc_W_cut 9 = .ok (.goto 6, 3) := by decide +kernel
theorem md_W_cut_12 : decode mc_W_cut 12 = .ok (.astore_n 3, 1) := by decide +kernel
theorem md_W_cut_13 : decode mc_W_cut 13 = .ok (.iconst 1, 1) := by decide +kernel
theorem md_W_cut_14 : decode mc_W_cut 14 = .ok (.ireturn, 1) := by decide +kernel
theorem md_W_cut_15 : decode mc_W_cut 15 = .ok (.iconst 0, 1) := by decide +kernel
theorem md_W_cut_16 : decode mc_W_cut 16 = .ok (.ireturn, 1) := by decide +kernel
theorem md_W_replay_0 : decode mc_W_replay 0 = .ok (.aload_n 3, 1) := by decide +kernel
theorem md_W_replay_1 : decode mc_W_replay 1 = .ok (.iconst 0, 1) := by decide +kernel
theorem md_W_replay_2 : decode mc_W_replay 2 = .ok (.aload_n 0, 1) := by decide +kernel
theorem md_W_replay_3 : decode mc_W_replay 3 = .ok (.iload_n 1, 1) := by decide +kernel
theorem md_W_replay_4 : decode mc_W_replay 4 = .ok (.iload_n 2, 1) := by decide +kernel
theorem md_W_replay_5 : decode mc_W_replay 5 = .ok (.invokevirtual 32, 3) := by decide +kernel
theorem md_W_replay_8 : decode mc_W_replay 8 = .ok (.i2l, 1) := by decide +kernel
theorem md_W_replay_9 : decode mc_W_replay 9 = .ok (.lastore, 1) := by decide +kernel
theorem md_W_replay_10 : decode mc_W_replay 10 = .ok (.goto 7, 3) := by decide +kernel
theorem md_W_replay_13 : decode mc_W_replay 13 = .ok (.astore 4, 2) := by decide +kernel
theorem md_W_replay_15 : decode mc_W_replay 15 = .ok (.iconst 1, 1) := by decide +kernel
theorem md_W_replay_16 : decode mc_W_replay 16 = .ok (.ireturn, 1) := by decide +kernel
theorem md_W_replay_17 : decode mc_W_replay 17 = .ok (.iconst 0, 1) := by decide +kernel
theorem md_W_replay_18 : decode mc_W_replay 18 = .ok (.ireturn, 1) := by decide +kernel
theorem md_W_look_0 : decode mc_W_look 0 = .ok (.aload_n 3, 1) := by decide +kernel
theorem md_W_look_1 : decode mc_W_look 1 = .ok (.iconst 0, 1) := by decide +kernel
theorem md_W_look_2 : decode mc_W_look 2 = .ok (.aload_n 0, 1) := by decide +kernel
theorem md_W_look_3 : decode mc_W_look 3 = .ok (.iload_n 1, 1) := by decide +kernel
theorem md_W_look_4 : decode mc_W_look 4 = .ok (.iload_n 2, 1) := by decide +kernel
theorem md_W_look_5 : decode mc_W_look 5 = .ok (.invokevirtual 35, 3) := by decide +kernel
theorem md_W_look_8 : decode mc_W_look 8 = .ok (.i2l, 1) := by decide +kernel
theorem md_W_look_9 : decode mc_W_look 9 = .ok (.lastore, 1) := by decide +kernel
theorem md_W_look_10 : decode mc_W_look 10 = .ok (.goto 7, 3) := by decide +kernel
theorem md_W_look_13 : decode mc_W_look 13 = .ok (.astore 4, 2) := by decide +kernel
theorem md_W_look_15 : decode mc_W_look 15 = .ok (.iconst 1, 1) := by decide +kernel
theorem md_W_look_16 : decode mc_W_look 16 = .ok (.ireturn, 1) := by decide +kernel
theorem md_W_look_17 : decode mc_W_look 17 = .ok (.iconst 0, 1) := by decide +kernel
theorem md_W_look_18 : decode mc_W_look 18 = .ok (.ireturn, 1) := by decide +kernel
theorem md_W_law_0 : decode mc_W_law 0 = .ok (.new 8, 3) := by decide +kernel
theorem md_W_law_3 : decode mc_W_law 3 = .ok (.dup, 1) := by decide +kernel
theorem md_W_law_4 : decode mc_W_law 4 = .ok (.invokespecial 40, 3) := by decide +kernel
theorem md_W_law_7 : decode mc_W_law 7 = .ok (.astore_n 1, 1) := by decide +kernel
theorem md_W_law_8 : decode mc_W_law 8 = .ok (.new 41, 3) := by decide +kernel
theorem md_W_law_11 : decode mc_W_law 11 = .ok (.dup, 1) := by decide +kernel
theorem md_W_law_12 : decode mc_W_law 12 = .ok (.invokespecial 43, 3) := by decide +kernel
theorem md_W_law_15 : decode mc_W_law 15 = .ok (.astore_n 2, 1) := by decide +kernel
theorem md_W_law_16 : decode mc_W_law 16 = .ok (.iconst 1, 1) := by decide +kernel
theorem md_W_law_17 : decode mc_W_law 17 = .ok (.newarray .long, 2) := by decide +kernel
theorem md_W_law_19 : decode mc_W_law 19 = .ok (.astore_n 3, 1) := by decide +kernel
theorem md_W_law_20 : decode mc_W_law 20 = .ok (.iconst 0, 1) := by decide +kernel
theorem md_W_law_21 : decode mc_W_law 21 = .ok (.istore 4, 2) := by decide +kernel
theorem md_W_law_23 : decode mc_W_law 23 = .ok (.iload 4, 2) := by decide +kernel
theorem md_W_law_25 : decode mc_W_law 25 = .ok (.aload_n 0, 1) := by decide +kernel
theorem md_W_law_26 : decode mc_W_law 26 = .ok (.arraylength, 1) := by decide +kernel
theorem md_W_law_27 : decode mc_W_law 27 = .ok (.bipush 6, 2) := by decide +kernel
theorem md_W_law_29 : decode mc_W_law 29 = .ok (.isub, 1) := by decide +kernel
theorem md_W_law_30 : decode mc_W_law 30 = .ok (.if_icmp .gt 822, 3) := by decide +kernel
theorem md_W_law_33 : decode mc_W_law 33 = .ok (.aload_n 0, 1) := by decide +kernel
theorem md_W_law_34 : decode mc_W_law 34 = .ok (.iload 4, 2) := by decide +kernel
theorem md_W_law_36 : decode mc_W_law 36 = .ok (.iaload, 1) := by decide +kernel
theorem md_W_law_37 : decode mc_W_law 37 = .ok (.bipush 15, 2) := by decide +kernel
theorem md_W_law_39 : decode mc_W_law 39 = .ok (.iand, 1) := by decide +kernel
theorem md_W_law_40 : decode mc_W_law 40 = .ok (.tableswitch 806 0 13 #[72, 176, 244, 312, 337, 390, 446, 502, 558, 626, 694, 719, 744, 781], 72) := by decide +kernel
theorem md_W_law_112 : decode mc_W_law 112 = .ok (.aload_n 1, 1) := by decide +kernel
theorem md_W_law_113 : decode mc_W_law 113 = .ok (.aload_n 0, 1) := by decide +kernel
theorem md_W_law_114 : decode mc_W_law 114 = .ok (.iload 4, 2) := by decide +kernel
theorem md_W_law_116 : decode mc_W_law 116 = .ok (.iconst 1, 1) := by decide +kernel
theorem md_W_law_117 : decode mc_W_law 117 = .ok (.iadd, 1) := by decide +kernel
theorem md_W_law_118 : decode mc_W_law 118 = .ok (.iaload, 1) := by decide +kernel
theorem md_W_law_119 : decode mc_W_law 119 = .ok (.aload_n 0, 1) := by decide +kernel
theorem md_W_law_120 : decode mc_W_law 120 = .ok (.iload 4, 2) := by decide +kernel
theorem md_W_law_122 : decode mc_W_law 122 = .ok (.iconst 2, 1) := by decide +kernel
theorem md_W_law_123 : decode mc_W_law 123 = .ok (.iadd, 1) := by decide +kernel
theorem md_W_law_124 : decode mc_W_law 124 = .ok (.iaload, 1) := by decide +kernel
theorem md_W_law_125 : decode mc_W_law 125 = .ok (.aload_n 0, 1) := by decide +kernel
theorem md_W_law_126 : decode mc_W_law 126 = .ok (.iload 4, 2) := by decide +kernel
theorem md_W_law_128 : decode mc_W_law 128 = .ok (.iconst 3, 1) := by decide +kernel
theorem md_W_law_129 : decode mc_W_law 129 = .ok (.iadd, 1) := by decide +kernel
theorem md_W_law_130 : decode mc_W_law 130 = .ok (.iaload, 1) := by decide +kernel
theorem md_W_law_131 : decode mc_W_law 131 = .ok (.aload_n 0, 1) := by decide +kernel
theorem md_W_law_132 : decode mc_W_law 132 = .ok (.iload 4, 2) := by decide +kernel
theorem md_W_law_134 : decode mc_W_law 134 = .ok (.iconst 4, 1) := by decide +kernel
theorem md_W_law_135 : decode mc_W_law 135 = .ok (.iadd, 1) := by decide +kernel
theorem md_W_law_136 : decode mc_W_law 136 = .ok (.iaload, 1) := by decide +kernel
theorem md_W_law_137 : decode mc_W_law 137 = .ok (.aload_n 0, 1) := by decide +kernel
theorem md_W_law_138 : decode mc_W_law 138 = .ok (.iload 4, 2) := by decide +kernel
theorem md_W_law_140 : decode mc_W_law 140 = .ok (.iconst 5, 1) := by decide +kernel
theorem md_W_law_141 : decode mc_W_law 141 = .ok (.iadd, 1) := by decide +kernel
theorem md_W_law_142 : decode mc_W_law 142 = .ok (.iaload, 1) := by decide +kernel
theorem md_W_law_143 : decode mc_W_law 143 = .ok (.aload_n 3, 1) := by decide +kernel
theorem md_W_law_144 : decode mc_W_law 144 = .ok (.invokestatic 44, 3) := by decide +kernel
theorem md_W_law_147 : decode mc_W_law 147 = .ok (.istore 5, 2) := by decide +kernel
theorem md_W_law_149 : decode mc_W_law 149 = .ok (.aload_n 2, 1) := by decide +kernel
theorem md_W_law_150 : decode mc_W_law 150 = .ok (.aload_n 0, 1) := by decide +kernel
theorem md_W_law_151 : decode mc_W_law 151 = .ok (.iload 4, 2) := by decide +kernel
theorem md_W_law_153 : decode mc_W_law 153 = .ok (.iconst 1, 1) := by decide +kernel
theorem md_W_law_154 : decode mc_W_law 154 = .ok (.iadd, 1) := by decide +kernel
theorem md_W_law_155 : decode mc_W_law 155 = .ok (.iaload, 1) := by decide +kernel
theorem md_W_law_156 : decode mc_W_law 156 = .ok (.aload_n 0, 1) := by decide +kernel
theorem md_W_law_157 : decode mc_W_law 157 = .ok (.iload 4, 2) := by decide +kernel
theorem md_W_law_159 : decode mc_W_law 159 = .ok (.iconst 2, 1) := by decide +kernel
theorem md_W_law_160 : decode mc_W_law 160 = .ok (.iadd, 1) := by decide +kernel
theorem md_W_law_161 : decode mc_W_law 161 = .ok (.iaload, 1) := by decide +kernel
theorem md_W_law_162 : decode mc_W_law 162 = .ok (.aload_n 0, 1) := by decide +kernel
theorem md_W_law_163 : decode mc_W_law 163 = .ok (.iload 4, 2) := by decide +kernel
theorem md_W_law_165 : decode mc_W_law 165 = .ok (.iconst 3, 1) := by decide +kernel
theorem md_W_law_166 : decode mc_W_law 166 = .ok (.iadd, 1) := by decide +kernel
theorem md_W_law_167 : decode mc_W_law 167 = .ok (.iaload, 1) := by decide +kernel
theorem md_W_law_168 : decode mc_W_law 168 = .ok (.aload_n 0, 1) := by decide +kernel
theorem md_W_law_169 : decode mc_W_law 169 = .ok (.iload 4, 2) := by decide +kernel
theorem md_W_law_171 : decode mc_W_law 171 = .ok (.iconst 4, 1) := by decide +kernel
theorem md_W_law_172 : decode mc_W_law 172 = .ok (.iadd, 1) := by decide +kernel
theorem md_W_law_173 : decode mc_W_law 173 = .ok (.iaload, 1) := by decide +kernel
theorem md_W_law_174 : decode mc_W_law 174 = .ok (.aload_n 0, 1) := by decide +kernel
theorem md_W_law_175 : decode mc_W_law 175 = .ok (.iload 4, 2) := by decide +kernel
theorem md_W_law_177 : decode mc_W_law 177 = .ok (.iconst 5, 1) := by decide +kernel
theorem md_W_law_178 : decode mc_W_law 178 = .ok (.iadd, 1) := by decide +kernel
theorem md_W_law_179 : decode mc_W_law 179 = .ok (.iaload, 1) := by decide +kernel
theorem md_W_law_180 : decode mc_W_law 180 = .ok (.invokevirtual 49, 3) := by decide +kernel
theorem md_W_law_183 : decode mc_W_law 183 = .ok (.istore 6, 2) := by decide +kernel
theorem md_W_law_185 : decode mc_W_law 185 = .ok (.aload_n 2, 1) := by decide +kernel
theorem md_W_law_186 : decode mc_W_law 186 = .ok (.invokevirtual 50, 3) := by decide +kernel
theorem md_W_law_189 : decode mc_W_law 189 = .ok (.iload 5, 2) := by decide +kernel
theorem md_W_law_191 : decode mc_W_law 191 = .ok (.if_icmp .eq 5, 3) := by decide +kernel
theorem md_W_law_194 : decode mc_W_law 194 = .ok (.iconst 0, 1) := by decide +kernel
theorem md_W_law_195 : decode mc_W_law 195 = .ok (.ireturn, 1) := by decide +kernel
theorem md_W_law_196 : decode mc_W_law 196 = .ok (.iload 5, 2) := by decide +kernel
theorem md_W_law_198 : decode mc_W_law 198 = .ok (.ifCond .ne 15, 3) := by decide +kernel
theorem md_W_law_201 : decode mc_W_law 201 = .ok (.aload_n 3, 1) := by decide +kernel
theorem md_W_law_202 : decode mc_W_law 202 = .ok (.iconst 0, 1) := by decide +kernel
theorem md_W_law_203 : decode mc_W_law 203 = .ok (.laload, 1) := by decide +kernel
theorem md_W_law_204 : decode mc_W_law 204 = .ok (.iload 6, 2) := by decide +kernel
theorem md_W_law_206 : decode mc_W_law 206 = .ok (.i2l, 1) := by decide +kernel
theorem md_W_law_207 : decode mc_W_law 207 = .ok (.lcmp, 1) := by decide +kernel
theorem md_W_law_208 : decode mc_W_law 208 = .ok (.ifCond .eq 5, 3) := by decide +kernel
theorem md_W_law_211 : decode mc_W_law 211 = .ok (.iconst 0, 1) := by decide +kernel
theorem md_W_law_212 : decode mc_W_law 212 = .ok (.ireturn, 1) := by decide +kernel
theorem md_W_law_213 : decode mc_W_law 213 = .ok (.goto 633, 3) := by decide +kernel
theorem md_W_law_216 : decode mc_W_law 216 = .ok (.aload_n 1, 1) := by decide +kernel
theorem md_W_law_217 : decode mc_W_law 217 = .ok (.aload_n 0, 1) := by decide +kernel
theorem md_W_law_218 : decode mc_W_law 218 = .ok (.iload 4, 2) := by decide +kernel
theorem md_W_law_220 : decode mc_W_law 220 = .ok (.iconst 1, 1) := by decide +kernel
theorem md_W_law_221 : decode mc_W_law 221 = .ok (.iadd, 1) := by decide +kernel
theorem md_W_law_222 : decode mc_W_law 222 = .ok (.iaload, 1) := by decide +kernel
theorem md_W_law_223 : decode mc_W_law 223 = .ok (.aload_n 0, 1) := by decide +kernel
theorem md_W_law_224 : decode mc_W_law 224 = .ok (.iload 4, 2) := by decide +kernel
theorem md_W_law_226 : decode mc_W_law 226 = .ok (.iconst 2, 1) := by decide +kernel
theorem md_W_law_227 : decode mc_W_law 227 = .ok (.iadd, 1) := by decide +kernel
theorem md_W_law_228 : decode mc_W_law 228 = .ok (.iaload, 1) := by decide +kernel
theorem md_W_law_229 : decode mc_W_law 229 = .ok (.aload_n 3, 1) := by decide +kernel
theorem md_W_law_230 : decode mc_W_law 230 = .ok (.invokestatic 54, 3) := by decide +kernel
theorem md_W_law_233 : decode mc_W_law 233 = .ok (.istore 5, 2) := by decide +kernel
theorem md_W_law_235 : decode mc_W_law 235 = .ok (.aload_n 2, 1) := by decide +kernel
theorem md_W_law_236 : decode mc_W_law 236 = .ok (.aload_n 0, 1) := by decide +kernel
theorem md_W_law_237 : decode mc_W_law 237 = .ok (.iload 4, 2) := by decide +kernel
theorem md_W_law_239 : decode mc_W_law 239 = .ok (.iconst 1, 1) := by decide +kernel
theorem md_W_law_240 : decode mc_W_law 240 = .ok (.iadd, 1) := by decide +kernel
theorem md_W_law_241 : decode mc_W_law 241 = .ok (.iaload, 1) := by decide +kernel
theorem md_W_law_242 : decode mc_W_law 242 = .ok (.aload_n 0, 1) := by decide +kernel
theorem md_W_law_243 : decode mc_W_law 243 = .ok (.iload 4, 2) := by decide +kernel
theorem md_W_law_245 : decode mc_W_law 245 = .ok (.iconst 2, 1) := by decide +kernel
theorem md_W_law_246 : decode mc_W_law 246 = .ok (.iadd, 1) := by decide +kernel
theorem md_W_law_247 : decode mc_W_law 247 = .ok (.iaload, 1) := by decide +kernel
theorem md_W_law_248 : decode mc_W_law 248 = .ok (.invokevirtual 57, 3) := by decide +kernel
theorem md_W_law_251 : decode mc_W_law 251 = .ok (.istore 6, 2) := by decide +kernel
theorem md_W_law_253 : decode mc_W_law 253 = .ok (.aload_n 2, 1) := by decide +kernel
theorem md_W_law_254 : decode mc_W_law 254 = .ok (.invokevirtual 50, 3) := by decide +kernel
theorem md_W_law_257 : decode mc_W_law 257 = .ok (.iload 5, 2) := by decide +kernel
theorem md_W_law_259 : decode mc_W_law 259 = .ok (.if_icmp .eq 5, 3) := by decide +kernel
theorem md_W_law_262 : decode mc_W_law 262 = .ok (.iconst 0, 1) := by decide +kernel
theorem md_W_law_263 : decode mc_W_law 263 = .ok (.ireturn, 1) := by decide +kernel
theorem md_W_law_264 : decode mc_W_law 264 = .ok (.iload 5, 2) := by decide +kernel
theorem md_W_law_266 : decode mc_W_law 266 = .ok (.ifCond .ne 15, 3) := by decide +kernel
theorem md_W_law_269 : decode mc_W_law 269 = .ok (.aload_n 3, 1) := by decide +kernel
theorem md_W_law_270 : decode mc_W_law 270 = .ok (.iconst 0, 1) := by decide +kernel
theorem md_W_law_271 : decode mc_W_law 271 = .ok (.laload, 1) := by decide +kernel
theorem md_W_law_272 : decode mc_W_law 272 = .ok (.iload 6, 2) := by decide +kernel
theorem md_W_law_274 : decode mc_W_law 274 = .ok (.i2l, 1) := by decide +kernel
theorem md_W_law_275 : decode mc_W_law 275 = .ok (.lcmp, 1) := by decide +kernel
theorem md_W_law_276 : decode mc_W_law 276 = .ok (.ifCond .eq 5, 3) := by decide +kernel
theorem md_W_law_279 : decode mc_W_law 279 = .ok (.iconst 0, 1) := by decide +kernel
theorem md_W_law_280 : decode mc_W_law 280 = .ok (.ireturn, 1) := by decide +kernel
theorem md_W_law_281 : decode mc_W_law 281 = .ok (.goto 565, 3) := by decide +kernel
theorem md_W_law_284 : decode mc_W_law 284 = .ok (.aload_n 1, 1) := by decide +kernel
theorem md_W_law_285 : decode mc_W_law 285 = .ok (.aload_n 0, 1) := by decide +kernel
theorem md_W_law_286 : decode mc_W_law 286 = .ok (.iload 4, 2) := by decide +kernel
theorem md_W_law_288 : decode mc_W_law 288 = .ok (.iconst 1, 1) := by decide +kernel
theorem md_W_law_289 : decode mc_W_law 289 = .ok (.iadd, 1) := by decide +kernel
theorem md_W_law_290 : decode mc_W_law 290 = .ok (.iaload, 1) := by decide +kernel
theorem md_W_law_291 : decode mc_W_law 291 = .ok (.aload_n 0, 1) := by decide +kernel
theorem md_W_law_292 : decode mc_W_law 292 = .ok (.iload 4, 2) := by decide +kernel
theorem md_W_law_294 : decode mc_W_law 294 = .ok (.iconst 2, 1) := by decide +kernel
theorem md_W_law_295 : decode mc_W_law 295 = .ok (.iadd, 1) := by decide +kernel
theorem md_W_law_296 : decode mc_W_law 296 = .ok (.iaload, 1) := by decide +kernel
theorem md_W_law_297 : decode mc_W_law 297 = .ok (.aload_n 3, 1) := by decide +kernel
theorem md_W_law_298 : decode mc_W_law 298 = .ok (.invokestatic 58, 3) := by decide +kernel
theorem md_W_law_301 : decode mc_W_law 301 = .ok (.istore 5, 2) := by decide +kernel
theorem md_W_law_303 : decode mc_W_law 303 = .ok (.aload_n 2, 1) := by decide +kernel
theorem md_W_law_304 : decode mc_W_law 304 = .ok (.aload_n 0, 1) := by decide +kernel
theorem md_W_law_305 : decode mc_W_law 305 = .ok (.iload 4, 2) := by decide +kernel
theorem md_W_law_307 : decode mc_W_law 307 = .ok (.iconst 1, 1) := by decide +kernel
theorem md_W_law_308 : decode mc_W_law 308 = .ok (.iadd, 1) := by decide +kernel
theorem md_W_law_309 : decode mc_W_law 309 = .ok (.iaload, 1) := by decide +kernel
theorem md_W_law_310 : decode mc_W_law 310 = .ok (.aload_n 0, 1) := by decide +kernel
theorem md_W_law_311 : decode mc_W_law 311 = .ok (.iload 4, 2) := by decide +kernel
theorem md_W_law_313 : decode mc_W_law 313 = .ok (.iconst 2, 1) := by decide +kernel
theorem md_W_law_314 : decode mc_W_law 314 = .ok (.iadd, 1) := by decide +kernel
theorem md_W_law_315 : decode mc_W_law 315 = .ok (.iaload, 1) := by decide +kernel
theorem md_W_law_316 : decode mc_W_law 316 = .ok (.invokevirtual 60, 3) := by decide +kernel
theorem md_W_law_319 : decode mc_W_law 319 = .ok (.istore 6, 2) := by decide +kernel
theorem md_W_law_321 : decode mc_W_law 321 = .ok (.aload_n 2, 1) := by decide +kernel
theorem md_W_law_322 : decode mc_W_law 322 = .ok (.invokevirtual 50, 3) := by decide +kernel
theorem md_W_law_325 : decode mc_W_law 325 = .ok (.iload 5, 2) := by decide +kernel
theorem md_W_law_327 : decode mc_W_law 327 = .ok (.if_icmp .eq 5, 3) := by decide +kernel
theorem md_W_law_330 : decode mc_W_law 330 = .ok (.iconst 0, 1) := by decide +kernel
theorem md_W_law_331 : decode mc_W_law 331 = .ok (.ireturn, 1) := by decide +kernel
theorem md_W_law_332 : decode mc_W_law 332 = .ok (.iload 5, 2) := by decide +kernel
theorem md_W_law_334 : decode mc_W_law 334 = .ok (.ifCond .ne 15, 3) := by decide +kernel
theorem md_W_law_337 : decode mc_W_law 337 = .ok (.aload_n 3, 1) := by decide +kernel
theorem md_W_law_338 : decode mc_W_law 338 = .ok (.iconst 0, 1) := by decide +kernel
theorem md_W_law_339 : decode mc_W_law 339 = .ok (.laload, 1) := by decide +kernel
theorem md_W_law_340 : decode mc_W_law 340 = .ok (.iload 6, 2) := by decide +kernel
theorem md_W_law_342 : decode mc_W_law 342 = .ok (.i2l, 1) := by decide +kernel
theorem md_W_law_343 : decode mc_W_law 343 = .ok (.lcmp, 1) := by decide +kernel
theorem md_W_law_344 : decode mc_W_law 344 = .ok (.ifCond .eq 5, 3) := by decide +kernel
theorem md_W_law_347 : decode mc_W_law 347 = .ok (.iconst 0, 1) := by decide +kernel
theorem md_W_law_348 : decode mc_W_law 348 = .ok (.ireturn, 1) := by decide +kernel
theorem md_W_law_349 : decode mc_W_law 349 = .ok (.goto 497, 3) := by decide +kernel
theorem md_W_law_352 : decode mc_W_law 352 = .ok (.aload_n 1, 1) := by decide +kernel
theorem md_W_law_353 : decode mc_W_law 353 = .ok (.aload_n 0, 1) := by decide +kernel
theorem md_W_law_354 : decode mc_W_law 354 = .ok (.iload 4, 2) := by decide +kernel
theorem md_W_law_356 : decode mc_W_law 356 = .ok (.iconst 1, 1) := by decide +kernel
theorem md_W_law_357 : decode mc_W_law 357 = .ok (.iadd, 1) := by decide +kernel
theorem md_W_law_358 : decode mc_W_law 358 = .ok (.iaload, 1) := by decide +kernel
theorem md_W_law_359 : decode mc_W_law 359 = .ok (.invokevirtual 61, 3) := by decide +kernel
theorem md_W_law_362 : decode mc_W_law 362 = .ok (.aload_n 2, 1) := by decide +kernel
theorem md_W_law_363 : decode mc_W_law 363 = .ok (.aload_n 0, 1) := by decide +kernel
theorem md_W_law_364 : decode mc_W_law 364 = .ok (.iload 4, 2) := by decide +kernel
theorem md_W_law_366 : decode mc_W_law 366 = .ok (.iconst 1, 1) := by decide +kernel
theorem md_W_law_367 : decode mc_W_law 367 = .ok (.iadd, 1) := by decide +kernel
theorem md_W_law_368 : decode mc_W_law 368 = .ok (.iaload, 1) := by decide +kernel
theorem md_W_law_369 : decode mc_W_law 369 = .ok (.invokevirtual 65, 3) := by decide +kernel
theorem md_W_law_372 : decode mc_W_law 372 = .ok (.if_icmp .eq 474, 3) := by decide +kernel
theorem md_W_law_375 : decode mc_W_law 375 = .ok (.iconst 0, 1) := by decide +kernel
theorem md_W_law_376 : decode mc_W_law 376 = .ok (.ireturn, 1) := by decide +kernel
theorem md_W_law_377 : decode mc_W_law 377 = .ok (.aload_n 1, 1) := by decide +kernel
theorem md_W_law_378 : decode mc_W_law 378 = .ok (.aload_n 0, 1) := by decide +kernel
theorem md_W_law_379 : decode mc_W_law 379 = .ok (.iload 4, 2) := by decide +kernel
theorem md_W_law_381 : decode mc_W_law 381 = .ok (.iconst 1, 1) := by decide +kernel
theorem md_W_law_382 : decode mc_W_law 382 = .ok (.iadd, 1) := by decide +kernel
theorem md_W_law_383 : decode mc_W_law 383 = .ok (.iaload, 1) := by decide +kernel
theorem md_W_law_384 : decode mc_W_law 384 = .ok (.aload_n 0, 1) := by decide +kernel
theorem md_W_law_385 : decode mc_W_law 385 = .ok (.iload 4, 2) := by decide +kernel
theorem md_W_law_387 : decode mc_W_law 387 = .ok (.iconst 2, 1) := by decide +kernel
theorem md_W_law_388 : decode mc_W_law 388 = .ok (.iadd, 1) := by decide +kernel
theorem md_W_law_389 : decode mc_W_law 389 = .ok (.iaload, 1) := by decide +kernel
theorem md_W_law_390 : decode mc_W_law 390 = .ok (.ifCond .eq 7, 3) := by decide +kernel
theorem md_W_law_393 : decode mc_W_law 393 = .ok (.iconst 1, 1) := by decide +kernel
theorem md_W_law_394 : decode mc_W_law 394 = .ok (.goto 4, 3) := by decide +kernel
theorem md_W_law_397 : decode mc_W_law 397 = .ok (.iconst 0, 1) := by decide +kernel
theorem md_W_law_398 : decode mc_W_law 398 = .ok (.invokevirtual 66, 3) := by decide +kernel
theorem md_W_law_401 : decode mc_W_law 401 = .ok (.aload_n 2, 1) := by decide +kernel
theorem md_W_law_402 : decode mc_W_law 402 = .ok (.aload_n 0, 1) := by decide +kernel
theorem md_W_law_403 : decode mc_W_law 403 = .ok (.iload 4, 2) := by decide +kernel
theorem md_W_law_405 : decode mc_W_law 405 = .ok (.iconst 1, 1) := by decide +kernel
theorem md_W_law_406 : decode mc_W_law 406 = .ok (.iadd, 1) := by decide +kernel
theorem md_W_law_407 : decode mc_W_law 407 = .ok (.iaload, 1) := by decide +kernel
theorem md_W_law_408 : decode mc_W_law 408 = .ok (.aload_n 0, 1) := by decide +kernel
theorem md_W_law_409 : decode mc_W_law 409 = .ok (.iload 4, 2) := by decide +kernel
theorem md_W_law_411 : decode mc_W_law 411 = .ok (.iconst 2, 1) := by decide +kernel
theorem md_W_law_412 : decode mc_W_law 412 = .ok (.iadd, 1) := by decide +kernel
theorem md_W_law_413 : decode mc_W_law 413 = .ok (.iaload, 1) := by decide +kernel
theorem md_W_law_414 : decode mc_W_law 414 = .ok (.ifCond .eq 7, 3) := by decide +kernel
theorem md_W_law_417 : decode mc_W_law 417 = .ok (.iconst 1, 1) := by decide +kernel
theorem md_W_law_418 : decode mc_W_law 418 = .ok (.goto 4, 3) := by decide +kernel
theorem md_W_law_421 : decode mc_W_law 421 = .ok (.iconst 0, 1) := by decide +kernel
theorem md_W_law_422 : decode mc_W_law 422 = .ok (.invokevirtual 70, 3) := by decide +kernel
theorem md_W_law_425 : decode mc_W_law 425 = .ok (.if_icmp .eq 421, 3) := by decide +kernel
theorem md_W_law_428 : decode mc_W_law 428 = .ok (.iconst 0, 1) := by decide +kernel
theorem md_W_law_429 : decode mc_W_law 429 = .ok (.ireturn, 1) := by decide +kernel
theorem md_W_law_430 : decode mc_W_law 430 = .ok (.aload_n 1, 1) := by decide +kernel
theorem md_W_law_431 : decode mc_W_law 431 = .ok (.aload_n 0, 1) := by decide +kernel
theorem md_W_law_432 : decode mc_W_law 432 = .ok (.iload 4, 2) := by decide +kernel
theorem md_W_law_434 : decode mc_W_law 434 = .ok (.iconst 1, 1) := by decide +kernel
theorem md_W_law_435 : decode mc_W_law 435 = .ok (.iadd, 1) := by decide +kernel
theorem md_W_law_436 : decode mc_W_law 436 = .ok (.iaload, 1) := by decide +kernel
theorem md_W_law_437 : decode mc_W_law 437 = .ok (.aload_n 3, 1) := by decide +kernel
theorem md_W_law_438 : decode mc_W_law 438 = .ok (.invokestatic 71, 3) := by decide +kernel
theorem md_W_law_441 : decode mc_W_law 441 = .ok (.istore 5, 2) := by decide +kernel
theorem md_W_law_443 : decode mc_W_law 443 = .ok (.aload_n 2, 1) := by decide +kernel
theorem md_W_law_444 : decode mc_W_law 444 = .ok (.aload_n 0, 1) := by decide +kernel
theorem md_W_law_445 : decode mc_W_law 445 = .ok (.iload 4, 2) := by decide +kernel
theorem md_W_law_447 : decode mc_W_law 447 = .ok (.iconst 1, 1) := by decide +kernel
theorem md_W_law_448 : decode mc_W_law 448 = .ok (.iadd, 1) := by decide +kernel
theorem md_W_law_449 : decode mc_W_law 449 = .ok (.iaload, 1) := by decide +kernel
theorem md_W_law_450 : decode mc_W_law 450 = .ok (.invokevirtual 74, 3) := by decide +kernel
theorem md_W_law_453 : decode mc_W_law 453 = .ok (.istore 6, 2) := by decide +kernel
theorem md_W_law_455 : decode mc_W_law 455 = .ok (.aload_n 2, 1) := by decide +kernel
theorem md_W_law_456 : decode mc_W_law 456 = .ok (.invokevirtual 50, 3) := by decide +kernel
theorem md_W_law_459 : decode mc_W_law 459 = .ok (.iload 5, 2) := by decide +kernel
theorem md_W_law_461 : decode mc_W_law 461 = .ok (.if_icmp .eq 5, 3) := by decide +kernel
theorem md_W_law_464 : decode mc_W_law 464 = .ok (.iconst 0, 1) := by decide +kernel
theorem md_W_law_465 : decode mc_W_law 465 = .ok (.ireturn, 1) := by decide +kernel
theorem md_W_law_466 : decode mc_W_law 466 = .ok (.iload 5, 2) := by decide +kernel
theorem md_W_law_468 : decode mc_W_law 468 = .ok (.ifCond .ne 15, 3) := by decide +kernel
theorem md_W_law_471 : decode mc_W_law 471 = .ok (.aload_n 3, 1) := by decide +kernel
theorem md_W_law_472 : decode mc_W_law 472 = .ok (.iconst 0, 1) := by decide +kernel
theorem md_W_law_473 : decode mc_W_law 473 = .ok (.laload, 1) := by decide +kernel
theorem md_W_law_474 : decode mc_W_law 474 = .ok (.iload 6, 2) := by decide +kernel
theorem md_W_law_476 : decode mc_W_law 476 = .ok (.i2l, 1) := by decide +kernel
theorem md_W_law_477 : decode mc_W_law 477 = .ok (.lcmp, 1) := by decide +kernel
theorem md_W_law_478 : decode mc_W_law 478 = .ok (.ifCond .eq 5, 3) := by decide +kernel
theorem md_W_law_481 : decode mc_W_law 481 = .ok (.iconst 0, 1) := by decide +kernel
theorem md_W_law_482 : decode mc_W_law 482 = .ok (.ireturn, 1) := by decide +kernel
theorem md_W_law_483 : decode mc_W_law 483 = .ok (.goto 363, 3) := by decide +kernel
theorem md_W_law_486 : decode mc_W_law 486 = .ok (.aload_n 1, 1) := by decide +kernel
theorem md_W_law_487 : decode mc_W_law 487 = .ok (.aload_n 0, 1) := by decide +kernel
theorem md_W_law_488 : decode mc_W_law 488 = .ok (.iload 4, 2) := by decide +kernel
theorem md_W_law_490 : decode mc_W_law 490 = .ok (.iconst 1, 1) := by decide +kernel
theorem md_W_law_491 : decode mc_W_law 491 = .ok (.iadd, 1) := by decide +kernel
theorem md_W_law_492 : decode mc_W_law 492 = .ok (.iaload, 1) := by decide +kernel
theorem md_W_law_493 : decode mc_W_law 493 = .ok (.aload_n 3, 1) := by decide +kernel
theorem md_W_law_494 : decode mc_W_law 494 = .ok (.invokestatic 75, 3) := by decide +kernel
theorem md_W_law_497 : decode mc_W_law 497 = .ok (.istore 5, 2) := by decide +kernel
theorem md_W_law_499 : decode mc_W_law 499 = .ok (.aload_n 2, 1) := by decide +kernel
theorem md_W_law_500 : decode mc_W_law 500 = .ok (.aload_n 0, 1) := by decide +kernel
theorem md_W_law_501 : decode mc_W_law 501 = .ok (.iload 4, 2) := by decide +kernel
theorem md_W_law_503 : decode mc_W_law 503 = .ok (.iconst 1, 1) := by decide +kernel
theorem md_W_law_504 : decode mc_W_law 504 = .ok (.iadd, 1) := by decide +kernel
theorem md_W_law_505 : decode mc_W_law 505 = .ok (.iaload, 1) := by decide +kernel
theorem md_W_law_506 : decode mc_W_law 506 = .ok (.invokevirtual 77, 3) := by decide +kernel
theorem md_W_law_509 : decode mc_W_law 509 = .ok (.istore 6, 2) := by decide +kernel
theorem md_W_law_511 : decode mc_W_law 511 = .ok (.aload_n 2, 1) := by decide +kernel
theorem md_W_law_512 : decode mc_W_law 512 = .ok (.invokevirtual 50, 3) := by decide +kernel
theorem md_W_law_515 : decode mc_W_law 515 = .ok (.iload 5, 2) := by decide +kernel
theorem md_W_law_517 : decode mc_W_law 517 = .ok (.if_icmp .eq 5, 3) := by decide +kernel
theorem md_W_law_520 : decode mc_W_law 520 = .ok (.iconst 0, 1) := by decide +kernel
theorem md_W_law_521 : decode mc_W_law 521 = .ok (.ireturn, 1) := by decide +kernel
theorem md_W_law_522 : decode mc_W_law 522 = .ok (.iload 5, 2) := by decide +kernel
theorem md_W_law_524 : decode mc_W_law 524 = .ok (.ifCond .ne 15, 3) := by decide +kernel
theorem md_W_law_527 : decode mc_W_law 527 = .ok (.aload_n 3, 1) := by decide +kernel
theorem md_W_law_528 : decode mc_W_law 528 = .ok (.iconst 0, 1) := by decide +kernel
theorem md_W_law_529 : decode mc_W_law 529 = .ok (.laload, 1) := by decide +kernel
theorem md_W_law_530 : decode mc_W_law 530 = .ok (.iload 6, 2) := by decide +kernel
theorem md_W_law_532 : decode mc_W_law 532 = .ok (.i2l, 1) := by decide +kernel
theorem md_W_law_533 : decode mc_W_law 533 = .ok (.lcmp, 1) := by decide +kernel
theorem md_W_law_534 : decode mc_W_law 534 = .ok (.ifCond .eq 5, 3) := by decide +kernel
theorem md_W_law_537 : decode mc_W_law 537 = .ok (.iconst 0, 1) := by decide +kernel
theorem md_W_law_538 : decode mc_W_law 538 = .ok (.ireturn, 1) := by decide +kernel
theorem md_W_law_539 : decode mc_W_law 539 = .ok (.goto 307, 3) := by decide +kernel
theorem md_W_law_542 : decode mc_W_law 542 = .ok (.aload_n 1, 1) := by decide +kernel
theorem md_W_law_543 : decode mc_W_law 543 = .ok (.aload_n 0, 1) := by decide +kernel
theorem md_W_law_544 : decode mc_W_law 544 = .ok (.iload 4, 2) := by decide +kernel
theorem md_W_law_546 : decode mc_W_law 546 = .ok (.iconst 1, 1) := by decide +kernel
theorem md_W_law_547 : decode mc_W_law 547 = .ok (.iadd, 1) := by decide +kernel
theorem md_W_law_548 : decode mc_W_law 548 = .ok (.iaload, 1) := by decide +kernel
theorem md_W_law_549 : decode mc_W_law 549 = .ok (.aload_n 3, 1) := by decide +kernel
theorem md_W_law_550 : decode mc_W_law 550 = .ok (.invokestatic 78, 3) := by decide +kernel
theorem md_W_law_553 : decode mc_W_law 553 = .ok (.istore 5, 2) := by decide +kernel
theorem md_W_law_555 : decode mc_W_law 555 = .ok (.aload_n 2, 1) := by decide +kernel
theorem md_W_law_556 : decode mc_W_law 556 = .ok (.aload_n 0, 1) := by decide +kernel
theorem md_W_law_557 : decode mc_W_law 557 = .ok (.iload 4, 2) := by decide +kernel
theorem md_W_law_559 : decode mc_W_law 559 = .ok (.iconst 1, 1) := by decide +kernel
theorem md_W_law_560 : decode mc_W_law 560 = .ok (.iadd, 1) := by decide +kernel
theorem md_W_law_561 : decode mc_W_law 561 = .ok (.iaload, 1) := by decide +kernel
theorem md_W_law_562 : decode mc_W_law 562 = .ok (.invokevirtual 80, 3) := by decide +kernel
theorem md_W_law_565 : decode mc_W_law 565 = .ok (.istore 6, 2) := by decide +kernel
theorem md_W_law_567 : decode mc_W_law 567 = .ok (.aload_n 2, 1) := by decide +kernel
theorem md_W_law_568 : decode mc_W_law 568 = .ok (.invokevirtual 50, 3) := by decide +kernel
theorem md_W_law_571 : decode mc_W_law 571 = .ok (.iload 5, 2) := by decide +kernel
theorem md_W_law_573 : decode mc_W_law 573 = .ok (.if_icmp .eq 5, 3) := by decide +kernel
theorem md_W_law_576 : decode mc_W_law 576 = .ok (.iconst 0, 1) := by decide +kernel
theorem md_W_law_577 : decode mc_W_law 577 = .ok (.ireturn, 1) := by decide +kernel
theorem md_W_law_578 : decode mc_W_law 578 = .ok (.iload 5, 2) := by decide +kernel
theorem md_W_law_580 : decode mc_W_law 580 = .ok (.ifCond .ne 15, 3) := by decide +kernel
theorem md_W_law_583 : decode mc_W_law 583 = .ok (.aload_n 3, 1) := by decide +kernel
theorem md_W_law_584 : decode mc_W_law 584 = .ok (.iconst 0, 1) := by decide +kernel
theorem md_W_law_585 : decode mc_W_law 585 = .ok (.laload, 1) := by decide +kernel
theorem md_W_law_586 : decode mc_W_law 586 = .ok (.iload 6, 2) := by decide +kernel
theorem md_W_law_588 : decode mc_W_law 588 = .ok (.i2l, 1) := by decide +kernel
theorem md_W_law_589 : decode mc_W_law 589 = .ok (.lcmp, 1) := by decide +kernel
theorem md_W_law_590 : decode mc_W_law 590 = .ok (.ifCond .eq 5, 3) := by decide +kernel
theorem md_W_law_593 : decode mc_W_law 593 = .ok (.iconst 0, 1) := by decide +kernel
theorem md_W_law_594 : decode mc_W_law 594 = .ok (.ireturn, 1) := by decide +kernel
theorem md_W_law_595 : decode mc_W_law 595 = .ok (.goto 251, 3) := by decide +kernel
theorem md_W_law_598 : decode mc_W_law 598 = .ok (.aload_n 1, 1) := by decide +kernel
theorem md_W_law_599 : decode mc_W_law 599 = .ok (.aload_n 0, 1) := by decide +kernel
theorem md_W_law_600 : decode mc_W_law 600 = .ok (.iload 4, 2) := by decide +kernel
theorem md_W_law_602 : decode mc_W_law 602 = .ok (.iconst 1, 1) := by decide +kernel
theorem md_W_law_603 : decode mc_W_law 603 = .ok (.iadd, 1) := by decide +kernel
theorem md_W_law_604 : decode mc_W_law 604 = .ok (.iaload, 1) := by decide +kernel
theorem md_W_law_605 : decode mc_W_law 605 = .ok (.aload_n 0, 1) := by decide +kernel
theorem md_W_law_606 : decode mc_W_law 606 = .ok (.iload 4, 2) := by decide +kernel
theorem md_W_law_608 : decode mc_W_law 608 = .ok (.iconst 2, 1) := by decide +kernel
theorem md_W_law_609 : decode mc_W_law 609 = .ok (.iadd, 1) := by decide +kernel
theorem md_W_law_610 : decode mc_W_law 610 = .ok (.iaload, 1) := by decide +kernel
theorem md_W_law_611 : decode mc_W_law 611 = .ok (.aload_n 3, 1) := by decide +kernel
theorem md_W_law_612 : decode mc_W_law 612 = .ok (.invokestatic 81, 3) := by decide +kernel
theorem md_W_law_615 : decode mc_W_law 615 = .ok (.istore 5, 2) := by decide +kernel
theorem md_W_law_617 : decode mc_W_law 617 = .ok (.aload_n 2, 1) := by decide +kernel
theorem md_W_law_618 : decode mc_W_law 618 = .ok (.aload_n 0, 1) := by decide +kernel
theorem md_W_law_619 : decode mc_W_law 619 = .ok (.iload 4, 2) := by decide +kernel
theorem md_W_law_621 : decode mc_W_law 621 = .ok (.iconst 1, 1) := by decide +kernel
theorem md_W_law_622 : decode mc_W_law 622 = .ok (.iadd, 1) := by decide +kernel
theorem md_W_law_623 : decode mc_W_law 623 = .ok (.iaload, 1) := by decide +kernel
theorem md_W_law_624 : decode mc_W_law 624 = .ok (.aload_n 0, 1) := by decide +kernel
theorem md_W_law_625 : decode mc_W_law 625 = .ok (.iload 4, 2) := by decide +kernel
theorem md_W_law_627 : decode mc_W_law 627 = .ok (.iconst 2, 1) := by decide +kernel
theorem md_W_law_628 : decode mc_W_law 628 = .ok (.iadd, 1) := by decide +kernel
theorem md_W_law_629 : decode mc_W_law 629 = .ok (.iaload, 1) := by decide +kernel
theorem md_W_law_630 : decode mc_W_law 630 = .ok (.invokevirtual 83, 3) := by decide +kernel
theorem md_W_law_633 : decode mc_W_law 633 = .ok (.istore 6, 2) := by decide +kernel
theorem md_W_law_635 : decode mc_W_law 635 = .ok (.aload_n 2, 1) := by decide +kernel
theorem md_W_law_636 : decode mc_W_law 636 = .ok (.invokevirtual 50, 3) := by decide +kernel
theorem md_W_law_639 : decode mc_W_law 639 = .ok (.iload 5, 2) := by decide +kernel
theorem md_W_law_641 : decode mc_W_law 641 = .ok (.if_icmp .eq 5, 3) := by decide +kernel
theorem md_W_law_644 : decode mc_W_law 644 = .ok (.iconst 0, 1) := by decide +kernel
theorem md_W_law_645 : decode mc_W_law 645 = .ok (.ireturn, 1) := by decide +kernel
theorem md_W_law_646 : decode mc_W_law 646 = .ok (.iload 5, 2) := by decide +kernel
theorem md_W_law_648 : decode mc_W_law 648 = .ok (.ifCond .ne 15, 3) := by decide +kernel
theorem md_W_law_651 : decode mc_W_law 651 = .ok (.aload_n 3, 1) := by decide +kernel
theorem md_W_law_652 : decode mc_W_law 652 = .ok (.iconst 0, 1) := by decide +kernel
theorem md_W_law_653 : decode mc_W_law 653 = .ok (.laload, 1) := by decide +kernel
theorem md_W_law_654 : decode mc_W_law 654 = .ok (.iload 6, 2) := by decide +kernel
theorem md_W_law_656 : decode mc_W_law 656 = .ok (.i2l, 1) := by decide +kernel
theorem md_W_law_657 : decode mc_W_law 657 = .ok (.lcmp, 1) := by decide +kernel
theorem md_W_law_658 : decode mc_W_law 658 = .ok (.ifCond .eq 5, 3) := by decide +kernel
theorem md_W_law_661 : decode mc_W_law 661 = .ok (.iconst 0, 1) := by decide +kernel
theorem md_W_law_662 : decode mc_W_law 662 = .ok (.ireturn, 1) := by decide +kernel
theorem md_W_law_663 : decode mc_W_law 663 = .ok (.goto 183, 3) := by decide +kernel
theorem md_W_law_666 : decode mc_W_law 666 = .ok (.aload_n 1, 1) := by decide +kernel
theorem md_W_law_667 : decode mc_W_law 667 = .ok (.aload_n 0, 1) := by decide +kernel
theorem md_W_law_668 : decode mc_W_law 668 = .ok (.iload 4, 2) := by decide +kernel
theorem md_W_law_670 : decode mc_W_law 670 = .ok (.iconst 1, 1) := by decide +kernel
theorem md_W_law_671 : decode mc_W_law 671 = .ok (.iadd, 1) := by decide +kernel
theorem md_W_law_672 : decode mc_W_law 672 = .ok (.iaload, 1) := by decide +kernel
theorem md_W_law_673 : decode mc_W_law 673 = .ok (.aload_n 0, 1) := by decide +kernel
theorem md_W_law_674 : decode mc_W_law 674 = .ok (.iload 4, 2) := by decide +kernel
theorem md_W_law_676 : decode mc_W_law 676 = .ok (.iconst 2, 1) := by decide +kernel
theorem md_W_law_677 : decode mc_W_law 677 = .ok (.iadd, 1) := by decide +kernel
theorem md_W_law_678 : decode mc_W_law 678 = .ok (.iaload, 1) := by decide +kernel
theorem md_W_law_679 : decode mc_W_law 679 = .ok (.aload_n 3, 1) := by decide +kernel
theorem md_W_law_680 : decode mc_W_law 680 = .ok (.invokestatic 84, 3) := by decide +kernel
theorem md_W_law_683 : decode mc_W_law 683 = .ok (.istore 5, 2) := by decide +kernel
theorem md_W_law_685 : decode mc_W_law 685 = .ok (.aload_n 2, 1) := by decide +kernel
theorem md_W_law_686 : decode mc_W_law 686 = .ok (.aload_n 0, 1) := by decide +kernel
theorem md_W_law_687 : decode mc_W_law 687 = .ok (.iload 4, 2) := by decide +kernel
theorem md_W_law_689 : decode mc_W_law 689 = .ok (.iconst 1, 1) := by decide +kernel
theorem md_W_law_690 : decode mc_W_law 690 = .ok (.iadd, 1) := by decide +kernel
theorem md_W_law_691 : decode mc_W_law 691 = .ok (.iaload, 1) := by decide +kernel
theorem md_W_law_692 : decode mc_W_law 692 = .ok (.aload_n 0, 1) := by decide +kernel
theorem md_W_law_693 : decode mc_W_law 693 = .ok (.iload 4, 2) := by decide +kernel
theorem md_W_law_695 : decode mc_W_law 695 = .ok (.iconst 2, 1) := by decide +kernel
theorem md_W_law_696 : decode mc_W_law 696 = .ok (.iadd, 1) := by decide +kernel
theorem md_W_law_697 : decode mc_W_law 697 = .ok (.iaload, 1) := by decide +kernel
theorem md_W_law_698 : decode mc_W_law 698 = .ok (.invokevirtual 86, 3) := by decide +kernel
theorem md_W_law_701 : decode mc_W_law 701 = .ok (.istore 6, 2) := by decide +kernel
theorem md_W_law_703 : decode mc_W_law 703 = .ok (.aload_n 2, 1) := by decide +kernel
theorem md_W_law_704 : decode mc_W_law 704 = .ok (.invokevirtual 50, 3) := by decide +kernel
theorem md_W_law_707 : decode mc_W_law 707 = .ok (.iload 5, 2) := by decide +kernel
theorem md_W_law_709 : decode mc_W_law 709 = .ok (.if_icmp .eq 5, 3) := by decide +kernel
theorem md_W_law_712 : decode mc_W_law 712 = .ok (.iconst 0, 1) := by decide +kernel
theorem md_W_law_713 : decode mc_W_law 713 = .ok (.ireturn, 1) := by decide +kernel
theorem md_W_law_714 : decode mc_W_law 714 = .ok (.iload 5, 2) := by decide +kernel
theorem md_W_law_716 : decode mc_W_law 716 = .ok (.ifCond .ne 15, 3) := by decide +kernel
theorem md_W_law_719 : decode mc_W_law 719 = .ok (.aload_n 3, 1) := by decide +kernel
theorem md_W_law_720 : decode mc_W_law 720 = .ok (.iconst 0, 1) := by decide +kernel
theorem md_W_law_721 : decode mc_W_law 721 = .ok (.laload, 1) := by decide +kernel
theorem md_W_law_722 : decode mc_W_law 722 = .ok (.iload 6, 2) := by decide +kernel
theorem md_W_law_724 : decode mc_W_law 724 = .ok (.i2l, 1) := by decide +kernel
theorem md_W_law_725 : decode mc_W_law 725 = .ok (.lcmp, 1) := by decide +kernel
theorem md_W_law_726 : decode mc_W_law 726 = .ok (.ifCond .eq 5, 3) := by decide +kernel
theorem md_W_law_729 : decode mc_W_law 729 = .ok (.iconst 0, 1) := by decide +kernel
theorem md_W_law_730 : decode mc_W_law 730 = .ok (.ireturn, 1) := by decide +kernel
theorem md_W_law_731 : decode mc_W_law 731 = .ok (.goto 115, 3) := by decide +kernel
theorem md_W_law_734 : decode mc_W_law 734 = .ok (.aload_n 1, 1) := by decide +kernel
theorem md_W_law_735 : decode mc_W_law 735 = .ok (.aload_n 0, 1) := by decide +kernel
theorem md_W_law_736 : decode mc_W_law 736 = .ok (.iload 4, 2) := by decide +kernel
theorem md_W_law_738 : decode mc_W_law 738 = .ok (.iconst 1, 1) := by decide +kernel
theorem md_W_law_739 : decode mc_W_law 739 = .ok (.iadd, 1) := by decide +kernel
theorem md_W_law_740 : decode mc_W_law 740 = .ok (.iaload, 1) := by decide +kernel
theorem md_W_law_741 : decode mc_W_law 741 = .ok (.invokevirtual 87, 3) := by decide +kernel
theorem md_W_law_744 : decode mc_W_law 744 = .ok (.aload_n 2, 1) := by decide +kernel
theorem md_W_law_745 : decode mc_W_law 745 = .ok (.aload_n 0, 1) := by decide +kernel
theorem md_W_law_746 : decode mc_W_law 746 = .ok (.iload 4, 2) := by decide +kernel
theorem md_W_law_748 : decode mc_W_law 748 = .ok (.iconst 1, 1) := by decide +kernel
theorem md_W_law_749 : decode mc_W_law 749 = .ok (.iadd, 1) := by decide +kernel
theorem md_W_law_750 : decode mc_W_law 750 = .ok (.iaload, 1) := by decide +kernel
theorem md_W_law_751 : decode mc_W_law 751 = .ok (.invokevirtual 90, 3) := by decide +kernel
theorem md_W_law_754 : decode mc_W_law 754 = .ok (.if_icmp .eq 92, 3) := by decide +kernel
theorem md_W_law_757 : decode mc_W_law 757 = .ok (.iconst 0, 1) := by decide +kernel
theorem md_W_law_758 : decode mc_W_law 758 = .ok (.ireturn, 1) := by decide +kernel
theorem md_W_law_759 : decode mc_W_law 759 = .ok (.aload_n 1, 1) := by decide +kernel
theorem md_W_law_760 : decode mc_W_law 760 = .ok (.aload_n 0, 1) := by decide +kernel
theorem md_W_law_761 : decode mc_W_law 761 = .ok (.iload 4, 2) := by decide +kernel
theorem md_W_law_763 : decode mc_W_law 763 = .ok (.iconst 1, 1) := by decide +kernel
theorem md_W_law_764 : decode mc_W_law 764 = .ok (.iadd, 1) := by decide +kernel
theorem md_W_law_765 : decode mc_W_law 765 = .ok (.iaload, 1) := by decide +kernel
theorem md_W_law_766 : decode mc_W_law 766 = .ok (.invokevirtual 91, 3) := by decide +kernel
theorem md_W_law_769 : decode mc_W_law 769 = .ok (.aload_n 2, 1) := by decide +kernel
theorem md_W_law_770 : decode mc_W_law 770 = .ok (.aload_n 0, 1) := by decide +kernel
theorem md_W_law_771 : decode mc_W_law 771 = .ok (.iload 4, 2) := by decide +kernel
theorem md_W_law_773 : decode mc_W_law 773 = .ok (.iconst 1, 1) := by decide +kernel
theorem md_W_law_774 : decode mc_W_law 774 = .ok (.iadd, 1) := by decide +kernel
theorem md_W_law_775 : decode mc_W_law 775 = .ok (.iaload, 1) := by decide +kernel
theorem md_W_law_776 : decode mc_W_law 776 = .ok (.invokevirtual 94, 3) := by decide +kernel
theorem md_W_law_779 : decode mc_W_law 779 = .ok (.if_icmp .eq 67, 3) := by decide +kernel
theorem md_W_law_782 : decode mc_W_law 782 = .ok (.iconst 0, 1) := by decide +kernel
theorem md_W_law_783 : decode mc_W_law 783 = .ok (.ireturn, 1) := by decide +kernel
theorem md_W_law_784 : decode mc_W_law 784 = .ok (.aload_n 1, 1) := by decide +kernel
theorem md_W_law_785 : decode mc_W_law 785 = .ok (.aload_n 0, 1) := by decide +kernel
theorem md_W_law_786 : decode mc_W_law 786 = .ok (.iload 4, 2) := by decide +kernel
theorem md_W_law_788 : decode mc_W_law 788 = .ok (.iconst 1, 1) := by decide +kernel
theorem md_W_law_789 : decode mc_W_law 789 = .ok (.iadd, 1) := by decide +kernel
theorem md_W_law_790 : decode mc_W_law 790 = .ok (.iaload, 1) := by decide +kernel
theorem md_W_law_791 : decode mc_W_law 791 = .ok (.aload_n 0, 1) := by decide +kernel
theorem md_W_law_792 : decode mc_W_law 792 = .ok (.iload 4, 2) := by decide +kernel
theorem md_W_law_794 : decode mc_W_law 794 = .ok (.iconst 2, 1) := by decide +kernel
theorem md_W_law_795 : decode mc_W_law 795 = .ok (.iadd, 1) := by decide +kernel
theorem md_W_law_796 : decode mc_W_law 796 = .ok (.iaload, 1) := by decide +kernel
theorem md_W_law_797 : decode mc_W_law 797 = .ok (.invokevirtual 95, 3) := by decide +kernel
theorem md_W_law_800 : decode mc_W_law 800 = .ok (.aload_n 2, 1) := by decide +kernel
theorem md_W_law_801 : decode mc_W_law 801 = .ok (.aload_n 0, 1) := by decide +kernel
theorem md_W_law_802 : decode mc_W_law 802 = .ok (.iload 4, 2) := by decide +kernel
theorem md_W_law_804 : decode mc_W_law 804 = .ok (.iconst 1, 1) := by decide +kernel
theorem md_W_law_805 : decode mc_W_law 805 = .ok (.iadd, 1) := by decide +kernel
theorem md_W_law_806 : decode mc_W_law 806 = .ok (.iaload, 1) := by decide +kernel
theorem md_W_law_807 : decode mc_W_law 807 = .ok (.aload_n 0, 1) := by decide +kernel
theorem md_W_law_808 : decode mc_W_law 808 = .ok (.iload 4, 2) := by decide +kernel
theorem md_W_law_810 : decode mc_W_law 810 = .ok (.iconst 2, 1) := by decide +kernel
theorem md_W_law_811 : decode mc_W_law 811 = .ok (.iadd, 1) := by decide +kernel
theorem md_W_law_812 : decode mc_W_law 812 = .ok (.iaload, 1) := by decide +kernel
theorem md_W_law_813 : decode mc_W_law 813 = .ok (.invokevirtual 98, 3) := by decide +kernel
theorem md_W_law_816 : decode mc_W_law 816 = .ok (.if_icmp .eq 30, 3) := by decide +kernel
theorem md_W_law_819 : decode mc_W_law 819 = .ok (.iconst 0, 1) := by decide +kernel
theorem md_W_law_820 : decode mc_W_law 820 = .ok (.ireturn, 1) := by decide +kernel
theorem md_W_law_821 : decode mc_W_law 821 = .ok (.aload_n 1, 1) := by decide +kernel
theorem md_W_law_822 : decode mc_W_law 822 = .ok (.aload_n 0, 1) := by decide +kernel
theorem md_W_law_823 : decode mc_W_law 823 = .ok (.iload 4, 2) := by decide +kernel
theorem md_W_law_825 : decode mc_W_law 825 = .ok (.iconst 1, 1) := by decide +kernel
theorem md_W_law_826 : decode mc_W_law 826 = .ok (.iadd, 1) := by decide +kernel
theorem md_W_law_827 : decode mc_W_law 827 = .ok (.iaload, 1) := by decide +kernel
theorem md_W_law_828 : decode mc_W_law 828 = .ok (.invokevirtual 99, 3) := by decide +kernel
theorem md_W_law_831 : decode mc_W_law 831 = .ok (.aload_n 2, 1) := by decide +kernel
theorem md_W_law_832 : decode mc_W_law 832 = .ok (.aload_n 0, 1) := by decide +kernel
theorem md_W_law_833 : decode mc_W_law 833 = .ok (.iload 4, 2) := by decide +kernel
theorem md_W_law_835 : decode mc_W_law 835 = .ok (.iconst 1, 1) := by decide +kernel
theorem md_W_law_836 : decode mc_W_law 836 = .ok (.iadd, 1) := by decide +kernel
theorem md_W_law_837 : decode mc_W_law 837 = .ok (.iaload, 1) := by decide +kernel
theorem md_W_law_838 : decode mc_W_law 838 = .ok (.invokevirtual 102, 3) := by decide +kernel
theorem md_W_law_841 : decode mc_W_law 841 = .ok (.if_icmp .eq 5, 3) := by decide +kernel
theorem md_W_law_844 : decode mc_W_law 844 = .ok (.iconst 0, 1) := by decide +kernel
theorem md_W_law_845 : decode mc_W_law 845 = .ok (.ireturn, 1) := by decide +kernel
theorem md_W_law_846 : decode mc_W_law 846 = .ok (.iinc 4 6, 3) := by decide +kernel
theorem md_W_law_849 : decode mc_W_law 849 = .ok (.goto (-826), 3) := by decide +kernel
theorem md_W_law_852 : decode mc_W_law 852 = .ok (.iconst 1, 1) := by decide +kernel
theorem md_W_law_853 : decode mc_W_law 853 = .ok (.ireturn, 1) := by decide +kernel
