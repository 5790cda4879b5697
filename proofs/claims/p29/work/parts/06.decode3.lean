theorem dX8_digest_39 : decode cX8_digest 39 = .ok (.iload 4, 2) := by decide +kernel
theorem dX8_digest_41 : decode cX8_digest 41 = .ok (.iconst 5, 1) := by decide +kernel
theorem dX8_digest_42 : decode cX8_digest 42 = .ok (.if_icmp .gt 21, 3) := by decide +kernel
theorem dX8_digest_45 : decode cX8_digest 45 = .ok (.lload_n 1, 1) := by decide +kernel
theorem dX8_digest_46 : decode cX8_digest 46 = .ok (.aload_n 0, 1) := by decide +kernel
theorem dX8_digest_47 : decode cX8_digest 47 = .ok (.iload_n 3, 1) := by decide +kernel
theorem dX8_digest_48 : decode cX8_digest 48 = .ok (.iload 4, 2) := by decide +kernel
theorem dX8_digest_50 : decode cX8_digest 50 = .ok (.invokevirtual 264, 3) := by decide +kernel
theorem dX8_digest_53 : decode cX8_digest 53 = .ok (.invokestatic 260, 3) := by decide +kernel
theorem dX8_digest_56 : decode cX8_digest 56 = .ok (.lstore_n 1, 1) := by decide +kernel
theorem dX8_digest_57 : decode cX8_digest 57 = .ok (.iinc 4 1, 3) := by decide +kernel
theorem dX8_digest_60 : decode cX8_digest 60 = .ok (.goto (-21), 3) := by decide +kernel
theorem dX8_digest_63 : decode cX8_digest 63 = .ok (.lload_n 1, 1) := by decide +kernel
theorem dX8_digest_64 : decode cX8_digest 64 = .ok (.aload_n 0, 1) := by decide +kernel
theorem dX8_digest_65 : decode cX8_digest 65 = .ok (.iload_n 3, 1) := by decide +kernel
theorem dX8_digest_66 : decode cX8_digest 66 = .ok (.aload_n 0, 1) := by decide +kernel
theorem dX8_digest_67 : decode cX8_digest 67 = .ok (.getfield 21, 3) := by decide +kernel
theorem dX8_digest_70 : decode cX8_digest 70 = .ok (.getfield 186, 3) := by decide +kernel
theorem dX8_digest_73 : decode cX8_digest 73 = .ok (.iconst 3, 1) := by decide +kernel
theorem dX8_digest_74 : decode cX8_digest 74 = .ok (.iadd, 1) := by decide +kernel
theorem dX8_digest_75 : decode cX8_digest 75 = .ok (.invokevirtual 267, 3) := by decide +kernel
theorem dX8_digest_78 : decode cX8_digest 78 = .ok (.invokestatic 260, 3) := by decide +kernel
theorem dX8_digest_81 : decode cX8_digest 81 = .ok (.lstore_n 1, 1) := by decide +kernel
theorem dX8_digest_82 : decode cX8_digest 82 = .ok (.iinc 3 1, 3) := by decide +kernel
theorem dX8_digest_85 : decode cX8_digest 85 = .ok (.goto (-55), 3) := by decide +kernel
theorem dX8_digest_88 : decode cX8_digest 88 = .ok (.iconst 0, 1) := by decide +kernel
theorem dX8_digest_89 : decode cX8_digest 89 = .ok (.istore_n 3, 1) := by decide +kernel
theorem dX8_digest_90 : decode cX8_digest 90 = .ok (.iload_n 3, 1) := by decide +kernel
theorem dX8_digest_91 : decode cX8_digest 91 = .ok (.aload_n 0, 1) := by decide +kernel
theorem dX8_digest_92 : decode cX8_digest 92 = .ok (.getfield 21, 3) := by decide +kernel
theorem dX8_digest_95 : decode cX8_digest 95 = .ok (.getfield 97, 3) := by decide +kernel
theorem dX8_digest_98 : decode cX8_digest 98 = .ok (.if_icmp .ge 73, 3) := by decide +kernel
theorem dX8_digest_101 : decode cX8_digest 101 = .ok (.iconst 0, 1) := by decide +kernel
theorem dX8_digest_102 : decode cX8_digest 102 = .ok (.istore 4, 2) := by decide +kernel
theorem dX8_digest_104 : decode cX8_digest 104 = .ok (.iload 4, 2) := by decide +kernel
theorem dX8_digest_106 : decode cX8_digest 106 = .ok (.bipush 9, 2) := by decide +kernel
theorem dX8_digest_108 : decode cX8_digest 108 = .ok (.if_icmp .gt 21, 3) := by decide +kernel
theorem dX8_digest_111 : decode cX8_digest 111 = .ok (.lload_n 1, 1) := by decide +kernel
theorem dX8_digest_112 : decode cX8_digest 112 = .ok (.aload_n 0, 1) := by decide +kernel
theorem dX8_digest_113 : decode cX8_digest 113 = .ok (.iload_n 3, 1) := by decide +kernel
theorem dX8_digest_114 : decode cX8_digest 114 = .ok (.iload 4, 2) := by decide +kernel
theorem dX8_digest_116 : decode cX8_digest 116 = .ok (.invokevirtual 270, 3) := by decide +kernel
theorem dX8_digest_119 : decode cX8_digest 119 = .ok (.invokestatic 260, 3) := by decide +kernel
theorem dX8_digest_122 : decode cX8_digest 122 = .ok (.lstore_n 1, 1) := by decide +kernel
theorem dX8_digest_123 : decode cX8_digest 123 = .ok (.iinc 4 1, 3) := by decide +kernel
theorem dX8_digest_126 : decode cX8_digest 126 = .ok (.goto (-22), 3) := by decide +kernel
theorem dX8_digest_129 : decode cX8_digest 129 = .ok (.lload_n 1, 1) := by decide +kernel
theorem dX8_digest_130 : decode cX8_digest 130 = .ok (.aload_n 0, 1) := by decide +kernel
theorem dX8_digest_131 : decode cX8_digest 131 = .ok (.iload_n 3, 1) := by decide +kernel
theorem dX8_digest_132 : decode cX8_digest 132 = .ok (.bipush 12, 2) := by decide +kernel
theorem dX8_digest_134 : decode cX8_digest 134 = .ok (.invokevirtual 273, 3) := by decide +kernel
theorem dX8_digest_137 : decode cX8_digest 137 = .ok (.invokestatic 260, 3) := by decide +kernel
theorem dX8_digest_140 : decode cX8_digest 140 = .ok (.lstore_n 1, 1) := by decide +kernel
theorem dX8_digest_141 : decode cX8_digest 141 = .ok (.lload_n 1, 1) := by decide +kernel
theorem dX8_digest_142 : decode cX8_digest 142 = .ok (.aload_n 0, 1) := by decide +kernel
theorem dX8_digest_143 : decode cX8_digest 143 = .ok (.iload_n 3, 1) := by decide +kernel
theorem dX8_digest_144 : decode cX8_digest 144 = .ok (.bipush 12, 2) := by decide +kernel
theorem dX8_digest_146 : decode cX8_digest 146 = .ok (.invokevirtual 276, 3) := by decide +kernel
theorem dX8_digest_149 : decode cX8_digest 149 = .ok (.invokestatic 260, 3) := by decide +kernel
theorem dX8_digest_152 : decode cX8_digest 152 = .ok (.lstore_n 1, 1) := by decide +kernel
theorem dX8_digest_153 : decode cX8_digest 153 = .ok (.lload_n 1, 1) := by decide +kernel
theorem dX8_digest_154 : decode cX8_digest 154 = .ok (.aload_n 0, 1) := by decide +kernel
theorem dX8_digest_155 : decode cX8_digest 155 = .ok (.iload_n 3, 1) := by decide +kernel
theorem dX8_digest_156 : decode cX8_digest 156 = .ok (.bipush 10, 2) := by decide +kernel
theorem dX8_digest_158 : decode cX8_digest 158 = .ok (.invokevirtual 279, 3) := by decide +kernel
theorem dX8_digest_161 : decode cX8_digest 161 = .ok (.invokestatic 260, 3) := by decide +kernel
theorem dX8_digest_164 : decode cX8_digest 164 = .ok (.lstore_n 1, 1) := by decide +kernel
theorem dX8_digest_165 : decode cX8_digest 165 = .ok (.iinc 3 1, 3) := by decide +kernel
theorem dX8_digest_168 : decode cX8_digest 168 = .ok (.goto (-78), 3) := by decide +kernel
theorem dX8_digest_171 : decode cX8_digest 171 = .ok (.iconst 0, 1) := by decide +kernel
theorem dX8_digest_172 : decode cX8_digest 172 = .ok (.istore_n 3, 1) := by decide +kernel
theorem dX8_digest_173 : decode cX8_digest 173 = .ok (.iload_n 3, 1) := by decide +kernel
theorem dX8_digest_174 : decode cX8_digest 174 = .ok (.aload_n 0, 1) := by decide +kernel
theorem dX8_digest_175 : decode cX8_digest 175 = .ok (.getfield 21, 3) := by decide +kernel
theorem dX8_digest_178 : decode cX8_digest 178 = .ok (.getfield 153, 3) := by decide +kernel
theorem dX8_digest_181 : decode cX8_digest 181 = .ok (.if_icmp .ge 36, 3) := by decide +kernel
theorem dX8_digest_184 : decode cX8_digest 184 = .ok (.iconst 0, 1) := by decide +kernel
theorem dX8_digest_185 : decode cX8_digest 185 = .ok (.istore 4, 2) := by decide +kernel
theorem dX8_digest_187 : decode cX8_digest 187 = .ok (.iload 4, 2) := by decide +kernel
theorem dX8_digest_189 : decode cX8_digest 189 = .ok (.iconst 4, 1) := by decide +kernel
theorem dX8_digest_190 : decode cX8_digest 190 = .ok (.if_icmp .gt 21, 3) := by decide +kernel
theorem dX8_digest_193 : decode cX8_digest 193 = .ok (.lload_n 1, 1) := by decide +kernel
theorem dX8_digest_194 : decode cX8_digest 194 = .ok (.aload_n 0, 1) := by decide +kernel
theorem dX8_digest_195 : decode cX8_digest 195 = .ok (.iload_n 3, 1) := by decide +kernel
theorem dX8_digest_196 : decode cX8_digest 196 = .ok (.iload 4, 2) := by decide +kernel
theorem dX8_digest_198 : decode cX8_digest 198 = .ok (.invokevirtual 282, 3) := by decide +kernel
theorem dX8_digest_201 : decode cX8_digest 201 = .ok (.invokestatic 260, 3) := by decide +kernel
theorem dX8_digest_204 : decode cX8_digest 204 = .ok (.lstore_n 1, 1) := by decide +kernel
theorem dX8_digest_205 : decode cX8_digest 205 = .ok (.iinc 4 1, 3) := by decide +kernel
theorem dX8_digest_208 : decode cX8_digest 208 = .ok (.goto (-21), 3) := by decide +kernel
theorem dX8_digest_211 : decode cX8_digest 211 = .ok (.iinc 3 1, 3) := by decide +kernel
theorem dX8_digest_214 : decode cX8_digest 214 = .ok (.goto (-41), 3) := by decide +kernel
theorem dX8_digest_217 : decode cX8_digest 217 = .ok (.lload_n 1, 1) := by decide +kernel
theorem dX8_digest_218 : decode cX8_digest 218 = .ok (.aload_n 0, 1) := by decide +kernel
theorem dX8_digest_219 : decode cX8_digest 219 = .ok (.bipush 12, 2) := by decide +kernel
theorem dX8_digest_221 : decode cX8_digest 221 = .ok (.invokevirtual 285, 3) := by decide +kernel
theorem dX8_digest_224 : decode cX8_digest 224 = .ok (.invokestatic 260, 3) := by decide +kernel
theorem dX8_digest_227 : decode cX8_digest 227 = .ok (.lstore_n 1, 1) := by decide +kernel
theorem dX8_digest_228 : decode cX8_digest 228 = .ok (.aload_n 0, 1) := by decide +kernel
theorem dX8_digest_229 : decode cX8_digest 229 = .ok (.getfield 10, 3) := by decide +kernel
theorem dX8_digest_232 : decode cX8_digest 232 = .ok (.aload_n 0, 1) := by decide +kernel
theorem dX8_digest_233 : decode cX8_digest 233 = .ok (.getfield 31, 3) := by decide +kernel
theorem dX8_digest_236 : decode cX8_digest 236 = .ok (.invokevirtual 149, 3) := by decide +kernel
theorem dX8_digest_239 : decode cX8_digest 239 = .ok (.ifCond .eq 32, 3) := by decide +kernel
theorem dX8_digest_242 : decode cX8_digest 242 = .ok (.iconst 0, 1) := by decide +kernel
theorem dX8_digest_243 : decode cX8_digest 243 = .ok (.istore_n 3, 1) := by decide +kernel
theorem dX8_digest_244 : decode cX8_digest 244 = .ok (.iload_n 3, 1) := by decide +kernel
theorem dX8_digest_245 : decode cX8_digest 245 = .ok (.aload_n 0, 1) := by decide +kernel
theorem dX8_digest_246 : decode cX8_digest 246 = .ok (.getfield 21, 3) := by decide +kernel
theorem dX8_digest_249 : decode cX8_digest 249 = .ok (.getfield 97, 3) := by decide +kernel
theorem dX8_digest_252 : decode cX8_digest 252 = .ok (.if_icmp .ge 19, 3) := by decide +kernel
theorem dX8_digest_255 : decode cX8_digest 255 = .ok (.lload_n 1, 1) := by decide +kernel
theorem dX8_digest_256 : decode cX8_digest 256 = .ok (.aload_n 0, 1) := by decide +kernel
theorem dX8_digest_257 : decode cX8_digest 257 = .ok (.iload_n 3, 1) := by decide +kernel
theorem dX8_digest_258 : decode cX8_digest 258 = .ok (.invokevirtual 288, 3) := by decide +kernel
theorem dX8_digest_261 : decode cX8_digest 261 = .ok (.invokestatic 260, 3) := by decide +kernel
theorem dX8_digest_264 : decode cX8_digest 264 = .ok (.lstore_n 1, 1) := by decide +kernel
theorem dX8_digest_265 : decode cX8_digest 265 = .ok (.iinc 3 1, 3) := by decide +kernel
theorem dX8_digest_268 : decode cX8_digest 268 = .ok (.goto (-24), 3) := by decide +kernel
theorem dX8_digest_271 : decode cX8_digest 271 = .ok (.lload_n 1, 1) := by decide +kernel
theorem dX8_digest_272 : decode cX8_digest 272 = .ok (.lreturn, 1) := by decide +kernel
theorem dX8_mixed_0 : decode cX8_mixed 0 = .ok (.lload_n 0, 1) := by decide +kernel
theorem dX8_mixed_1 : decode cX8_mixed 1 = .ok (.ldc2_w 291, 3) := by decide +kernel
theorem dX8_mixed_4 : decode cX8_mixed 4 = .ok (.lmul, 1) := by decide +kernel
theorem dX8_mixed_5 : decode cX8_mixed 5 = .ok (.iload_n 2, 1) := by decide +kernel
theorem dX8_mixed_6 : decode cX8_mixed 6 = .ok (.i2l, 1) := by decide +kernel
theorem dX8_mixed_7 : decode cX8_mixed 7 = .ok (.ladd, 1) := by decide +kernel
theorem dX8_mixed_8 : decode cX8_mixed 8 = .ok (.lreturn, 1) := by decide +kernel
theorem dX8_checkIndex_0 : decode cX8_checkIndex 0 = .ok (.iload_n 0, 1) := by decide +kernel
theorem dX8_checkIndex_1 : decode cX8_checkIndex 1 = .ok (.ifCond .ne 14, 3) := by decide +kernel
theorem dX8_checkIndex_4 : decode cX8_checkIndex 4 = .ok (.new 293, 3) := by decide +kernel
theorem dX8_checkIndex_7 : decode cX8_checkIndex 7 = .ok (.dup, 1) := by decide +kernel
theorem dX8_checkIndex_8 : decode cX8_checkIndex 8 = .ok (.ldc_w 295, 3) := by decide +kernel
theorem dX8_checkIndex_11 : decode cX8_checkIndex 11 = .ok (.invokespecial 297, 3) := by decide +kernel
theorem dX8_checkIndex_14 : decode cX8_checkIndex 14 = .ok (.athrow, 1) := by decide +kernel
theorem dX8_checkIndex_15 : decode cX8_checkIndex 15 = .ok (.return_, 1) := by decide +kernel
theorem dX8_checkArgument_0 : decode cX8_checkArgument 0 = .ok (.iload_n 0, 1) := by decide +kernel
theorem dX8_checkArgument_1 : decode cX8_checkArgument 1 = .ok (.ifCond .ne 14, 3) := by decide +kernel
theorem dX8_checkArgument_4 : decode cX8_checkArgument 4 = .ok (.new 205, 3) := by decide +kernel
theorem dX8_checkArgument_7 : decode cX8_checkArgument 7 = .ok (.dup, 1) := by decide +kernel
theorem dX8_checkArgument_8 : decode cX8_checkArgument 8 = .ok (.ldc_w 298, 3) := by decide +kernel
theorem dX8_checkArgument_11 : decode cX8_checkArgument 11 = .ok (.invokespecial 209, 3) := by decide +kernel
theorem dX8_checkArgument_14 : decode cX8_checkArgument 14 = .ok (.athrow, 1) := by decide +kernel
theorem dX8_checkArgument_15 : decode cX8_checkArgument 15 = .ok (.return_, 1) := by decide +kernel
theorem dX8_checkState_0 : decode cX8_checkState 0 = .ok (.iload_n 0, 1) := by decide +kernel
theorem dX8_checkState_1 : decode cX8_checkState 1 = .ok (.ifCond .ne 14, 3) := by decide +kernel
theorem dX8_checkState_4 : decode cX8_checkState 4 = .ok (.new 300, 3) := by decide +kernel
theorem dX8_checkState_7 : decode cX8_checkState 7 = .ok (.dup, 1) := by decide +kernel
theorem dX8_checkState_8 : decode cX8_checkState 8 = .ok (.ldc_w 302, 3) := by decide +kernel
theorem dX8_checkState_11 : decode cX8_checkState 11 = .ok (.invokespecial 304, 3) := by decide +kernel
theorem dX8_checkState_14 : decode cX8_checkState 14 = .ok (.athrow, 1) := by decide +kernel
theorem dX8_checkState_15 : decode cX8_checkState 15 = .ok (.return_, 1) := by decide +kernel
theorem dX8_checkCell_0 : decode cX8_checkCell 0 = .ok (.iload_n 0, 1) := by decide +kernel
theorem dX8_checkCell_1 : decode cX8_checkCell 1 = .ok (.invokestatic 305, 3) := by decide +kernel
theorem dX8_checkCell_4 : decode cX8_checkCell 4 = .ok (.invokestatic 94, 3) := by decide +kernel
theorem dX8_checkCell_7 : decode cX8_checkCell 7 = .ok (.return_, 1) := by decide +kernel
theorem dX8_checkCraft_0 : decode cX8_checkCraft 0 = .ok (.aload_n 0, 1) := by decide +kernel
theorem dX8_checkCraft_1 : decode cX8_checkCraft 1 = .ok (.getfield 21, 3) := by decide +kernel
theorem dX8_checkCraft_4 : decode cX8_checkCraft 4 = .ok (.iload_n 1, 1) := by decide +kernel
theorem dX8_checkCraft_5 : decode cX8_checkCraft 5 = .ok (.invokevirtual 309, 3) := by decide +kernel
theorem dX8_checkCraft_8 : decode cX8_checkCraft 8 = .ok (.invokestatic 94, 3) := by decide +kernel
theorem dX8_checkCraft_11 : decode cX8_checkCraft 11 = .ok (.return_, 1) := by decide +kernel
theorem dX8_checkFlight_0 : decode cX8_checkFlight 0 = .ok (.iload_n 1, 1) := by decide +kernel
theorem dX8_checkFlight_1 : decode cX8_checkFlight 1 = .ok (.ifCond .lt 18, 3) := by decide +kernel
theorem dX8_checkFlight_4 : decode cX8_checkFlight 4 = .ok (.iload_n 1, 1) := by decide +kernel
theorem dX8_checkFlight_5 : decode cX8_checkFlight 5 = .ok (.aload_n 0, 1) := by decide +kernel
theorem dX8_checkFlight_6 : decode cX8_checkFlight 6 = .ok (.getfield 21, 3) := by decide +kernel
theorem dX8_checkFlight_9 : decode cX8_checkFlight 9 = .ok (.getfield 153, 3) := by decide +kernel
theorem dX8_checkFlight_12 : decode cX8_checkFlight 12 = .ok (.if_icmp .ge 7, 3) := by decide +kernel
theorem dX8_checkFlight_15 : decode cX8_checkFlight 15 = .ok (.iconst 1, 1) := by decide +kernel
theorem dX8_checkFlight_16 : decode cX8_checkFlight 16 = .ok (.goto 4, 3) := by decide +kernel
theorem dX8_checkFlight_19 : decode cX8_checkFlight 19 = .ok (.iconst 0, 1) := by decide +kernel
theorem dX8_checkFlight_20 : decode cX8_checkFlight 20 = .ok (.invokestatic 94, 3) := by decide +kernel
theorem dX8_checkFlight_23 : decode cX8_checkFlight 23 = .ok (.return_, 1) := by decide +kernel
theorem dX8_checkStart_0 : decode cX8_checkStart 0 = .ok (.iload_n 1, 1) := by decide +kernel
theorem dX8_checkStart_1 : decode cX8_checkStart 1 = .ok (.aload_n 0, 1) := by decide +kernel
theorem dX8_checkStart_2 : decode cX8_checkStart 2 = .ok (.getfield 21, 3) := by decide +kernel
theorem dX8_checkStart_5 : decode cX8_checkStart 5 = .ok (.getfield 186, 3) := by decide +kernel
theorem dX8_checkStart_8 : decode cX8_checkStart 8 = .ok (.if_icmp .le 22, 3) := by decide +kernel
theorem dX8_checkStart_11 : decode cX8_checkStart 11 = .ok (.iload_n 1, 1) := by decide +kernel
theorem dX8_checkStart_12 : decode cX8_checkStart 12 = .ok (.aload_n 0, 1) := by decide +kernel
theorem dX8_checkStart_13 : decode cX8_checkStart 13 = .ok (.getfield 21, 3) := by decide +kernel
theorem dX8_checkStart_16 : decode cX8_checkStart 16 = .ok (.getfield 186, 3) := by decide +kernel
theorem dX8_checkStart_19 : decode cX8_checkStart 19 = .ok (.sipush 2000, 3) := by decide +kernel
theorem dX8_checkStart_22 : decode cX8_checkStart 22 = .ok (.iadd, 1) := by decide +kernel
theorem dX8_checkStart_23 : decode cX8_checkStart 23 = .ok (.if_icmp .gt 7, 3) := by decide +kernel
theorem dX8_checkStart_26 : decode cX8_checkStart 26 = .ok (.iconst 1, 1) := by decide +kernel
theorem dX8_checkStart_27 : decode cX8_checkStart 27 = .ok (.goto 4, 3) := by decide +kernel
theorem dX8_checkStart_30 : decode cX8_checkStart 30 = .ok (.iconst 0, 1) := by decide +kernel
theorem dX8_checkStart_31 : decode cX8_checkStart 31 = .ok (.invokestatic 55, 3) := by decide +kernel
theorem dX8_checkStart_34 : decode cX8_checkStart 34 = .ok (.return_, 1) := by decide +kernel
theorem dX8_checkMinutes_0 : decode cX8_checkMinutes 0 = .ok (.iload_n 0, 1) := by decide +kernel
theorem dX8_checkMinutes_1 : decode cX8_checkMinutes 1 = .ok (.iconst 1, 1) := by decide +kernel
theorem dX8_checkMinutes_2 : decode cX8_checkMinutes 2 = .ok (.if_icmp .lt 13, 3) := by decide +kernel
theorem dX8_checkMinutes_5 : decode cX8_checkMinutes 5 = .ok (.iload_n 0, 1) := by decide +kernel
theorem dX8_checkMinutes_6 : decode cX8_checkMinutes 6 = .ok (.bipush 100, 2) := by decide +kernel
theorem dX8_checkMinutes_8 : decode cX8_checkMinutes 8 = .ok (.if_icmp .gt 7, 3) := by decide +kernel
theorem dX8_checkMinutes_11 : decode cX8_checkMinutes 11 = .ok (.iconst 1, 1) := by decide +kernel
theorem dX8_checkMinutes_12 : decode cX8_checkMinutes 12 = .ok (.goto 4, 3) := by decide +kernel
theorem dX8_checkMinutes_15 : decode cX8_checkMinutes 15 = .ok (.iconst 0, 1) := by decide +kernel
theorem dX8_checkMinutes_16 : decode cX8_checkMinutes 16 = .ok (.invokestatic 55, 3) := by decide +kernel
theorem dX8_checkMinutes_19 : decode cX8_checkMinutes 19 = .ok (.return_, 1) := by decide +kernel
theorem dX8_isCell_0 : decode cX8_isCell 0 = .ok (.iload_n 0, 1) := by decide +kernel
theorem dX8_isCell_1 : decode cX8_isCell 1 = .ok (.ifCond .lt 13, 3) := by decide +kernel
theorem dX8_isCell_4 : decode cX8_isCell 4 = .ok (.iload_n 0, 1) := by decide +kernel
theorem dX8_isCell_5 : decode cX8_isCell 5 = .ok (.bipush 25, 2) := by decide +kernel
theorem dX8_isCell_7 : decode cX8_isCell 7 = .ok (.if_icmp .ge 7, 3) := by decide +kernel
theorem dX8_isCell_10 : decode cX8_isCell 10 = .ok (.iconst 1, 1) := by decide +kernel
theorem dX8_isCell_11 : decode cX8_isCell 11 = .ok (.goto 4, 3) := by decide +kernel
theorem dX8_isCell_14 : decode cX8_isCell 14 = .ok (.iconst 0, 1) := by decide +kernel
theorem dX8_isCell_15 : decode cX8_isCell 15 = .ok (.ireturn, 1) := by decide +kernel
theorem dJ7_fill_53178_0 : decode cJ7_fill_53178 0 = .ok (.iconst 0, 1) := by decide +kernel
theorem dJ7_fill_53178_1 : decode cJ7_fill_53178 1 = .ok (.istore_n 2, 1) := by decide +kernel
theorem dJ7_fill_53178_2 : decode cJ7_fill_53178 2 = .ok (.aload_n 0, 1) := by decide +kernel
theorem dJ7_fill_53178_3 : decode cJ7_fill_53178 3 = .ok (.arraylength, 1) := by decide +kernel
theorem dJ7_fill_53178_4 : decode cJ7_fill_53178 4 = .ok (.istore_n 3, 1) := by decide +kernel
theorem dJ7_fill_53178_5 : decode cJ7_fill_53178 5 = .ok (.iload_n 2, 1) := by decide +kernel
theorem dJ7_fill_53178_6 : decode cJ7_fill_53178 6 = .ok (.iload_n 3, 1) := by decide +kernel
theorem dJ7_fill_53178_7 : decode cJ7_fill_53178 7 = .ok (.if_icmp .ge 13, 3) := by decide +kernel
theorem dJ7_fill_53178_10 : decode cJ7_fill_53178 10 = .ok (.aload_n 0, 1) := by decide +kernel
theorem dJ7_fill_53178_11 : decode cJ7_fill_53178 11 = .ok (.iload_n 2, 1) := by decide +kernel
theorem dJ7_fill_53178_12 : decode cJ7_fill_53178 12 = .ok (.iload_n 1, 1) := by decide +kernel
theorem dJ7_fill_53178_13 : decode cJ7_fill_53178 13 = .ok (.iastore, 1) := by decide +kernel
theorem dJ7_fill_53178_14 : decode cJ7_fill_53178 14 = .ok (.iinc 2 1, 3) := by decide +kernel
theorem dJ7_fill_53178_17 : decode cJ7_fill_53178 17 = .ok (.goto (-12), 3) := by decide +kernel
theorem dJ7_fill_53178_20 : decode cJ7_fill_53178 20 = .ok (.return_, 1) := by decide +kernel
theorem dL_below_0 : decode cL_below 0 = .ok (.iload_n 0, 1) := by decide +kernel
theorem dL_below_1 : decode cL_below 1 = .ok (.ldc 7, 2) := by decide +kernel
theorem dL_below_3 : decode cL_below 3 = .ok (.iand, 1) := by decide +kernel
theorem dL_below_4 : decode cL_below 4 = .ok (.iload_n 1, 1) := by decide +kernel
theorem dL_below_5 : decode cL_below 5 = .ok (.irem, 1) := by decide +kernel
theorem dL_below_6 : decode cL_below 6 = .ok (.ireturn, 1) := by decide +kernel
theorem dL_cell_0 : decode cL_cell 0 = .ok (.iload_n 1, 1) := by decide +kernel
theorem dL_cell_1 : decode cL_cell 1 = .ok (.aload_n 0, 1) := by decide +kernel
theorem dL_cell_2 : decode cL_cell 2 = .ok (.arraylength, 1) := by decide +kernel
theorem dL_cell_3 : decode cL_cell 3 = .ok (.if_icmp .ge 9, 3) := by decide +kernel
theorem dL_cell_6 : decode cL_cell 6 = .ok (.aload_n 0, 1) := by decide +kernel
theorem dL_cell_7 : decode cL_cell 7 = .ok (.iload_n 1, 1) := by decide +kernel
theorem dL_cell_8 : decode cL_cell 8 = .ok (.iaload, 1) := by decide +kernel
theorem dL_cell_9 : decode cL_cell 9 = .ok (.goto 9, 3) := by decide +kernel
theorem dL_cell_12 : decode cL_cell 12 = .ok (.ldc 8, 2) := by decide +kernel
theorem dL_cell_14 : decode cL_cell 14 = .ok (.iload_n 1, 1) := by decide +kernel
theorem dL_cell_15 : decode cL_cell 15 = .ok (.iconst 3, 1) := by decide +kernel
theorem dL_cell_16 : decode cL_cell 16 = .ok (.iadd, 1) := by decide +kernel
theorem dL_cell_17 : decode cL_cell 17 = .ok (.imul, 1) := by decide +kernel
theorem dL_cell_18 : decode cL_cell 18 = .ok (.ireturn, 1) := by decide +kernel
theorem dL_law_0 : decode cL_law 0 = .ok (.new 9, 3) := by decide +kernel
theorem dL_law_3 : decode cL_law 3 = .ok (.dup, 1) := by decide +kernel
theorem dL_law_4 : decode cL_law 4 = .ok (.invokespecial 11, 3) := by decide +kernel
theorem dL_law_7 : decode cL_law 7 = .ok (.astore_n 1, 1) := by decide +kernel
theorem dL_law_8 : decode cL_law 8 = .ok (.iconst 5, 1) := by decide +kernel
theorem dL_law_9 : decode cL_law 9 = .ok (.newarray .int, 2) := by decide +kernel
theorem dL_law_11 : decode cL_law 11 = .ok (.dup, 1) := by decide +kernel
theorem dL_law_12 : decode cL_law 12 = .ok (.iconst 0, 1) := by decide +kernel
theorem dL_law_13 : decode cL_law 13 = .ok (.iconst 0, 1) := by decide +kernel
theorem dL_law_14 : decode cL_law 14 = .ok (.iastore, 1) := by decide +kernel
theorem dL_law_15 : decode cL_law 15 = .ok (.dup, 1) := by decide +kernel
theorem dL_law_16 : decode cL_law 16 = .ok (.iconst 1, 1) := by decide +kernel
theorem dL_law_17 : decode cL_law 17 = .ok (.iconst 2, 1) := by decide +kernel
theorem dL_law_18 : decode cL_law 18 = .ok (.iastore, 1) := by decide +kernel
theorem dL_law_19 : decode cL_law 19 = .ok (.dup, 1) := by decide +kernel
theorem dL_law_20 : decode cL_law 20 = .ok (.iconst 2, 1) := by decide +kernel
theorem dL_law_21 : decode cL_law 21 = .ok (.bipush 12, 2) := by decide +kernel
theorem dL_law_23 : decode cL_law 23 = .ok (.iastore, 1) := by decide +kernel
theorem dL_law_24 : decode cL_law 24 = .ok (.dup, 1) := by decide +kernel
theorem dL_law_25 : decode cL_law 25 = .ok (.iconst 3, 1) := by decide +kernel
theorem dL_law_26 : decode cL_law 26 = .ok (.bipush 20, 2) := by decide +kernel
theorem dL_law_28 : decode cL_law 28 = .ok (.iastore, 1) := by decide +kernel
theorem dL_law_29 : decode cL_law 29 = .ok (.dup, 1) := by decide +kernel
theorem dL_law_30 : decode cL_law 30 = .ok (.iconst 4, 1) := by decide +kernel
theorem dL_law_31 : decode cL_law 31 = .ok (.bipush 24, 2) := by decide +kernel
theorem dL_law_33 : decode cL_law 33 = .ok (.iastore, 1) := by decide +kernel
theorem dL_law_34 : decode cL_law 34 = .ok (.astore_n 2, 1) := by decide +kernel
theorem dL_law_35 : decode cL_law 35 = .ok (.iconst 0, 1) := by decide +kernel
theorem dL_law_36 : decode cL_law 36 = .ok (.istore_n 3, 1) := by decide +kernel
theorem dL_law_37 : decode cL_law 37 = .ok (.iload_n 3, 1) := by decide +kernel
theorem dL_law_38 : decode cL_law 38 = .ok (.iconst 5, 1) := by decide +kernel
theorem dL_law_39 : decode cL_law 39 = .ok (.if_icmp .ge 22, 3) := by decide +kernel
theorem dL_law_42 : decode cL_law 42 = .ok (.aload_n 1, 1) := by decide +kernel
theorem dL_law_43 : decode cL_law 43 = .ok (.aload_n 2, 1) := by decide +kernel
theorem dL_law_44 : decode cL_law 44 = .ok (.iload_n 3, 1) := by decide +kernel
theorem dL_law_45 : decode cL_law 45 = .ok (.iaload, 1) := by decide +kernel
theorem dL_law_46 : decode cL_law 46 = .ok (.invokevirtual 12, 3) := by decide +kernel
theorem dL_law_49 : decode cL_law 49 = .ok (.iload_n 3, 1) := by decide +kernel
theorem dL_law_50 : decode cL_law 50 = .ok (.if_icmp .eq 5, 3) := by decide +kernel
theorem dL_law_53 : decode cL_law 53 = .ok (.iconst 0, 1) := by decide +kernel
theorem dL_law_54 : decode cL_law 54 = .ok (.ireturn, 1) := by decide +kernel
theorem dL_law_55 : decode cL_law 55 = .ok (.iinc 3 1, 3) := by decide +kernel
theorem dL_law_58 : decode cL_law 58 = .ok (.goto (-21), 3) := by decide +kernel
theorem dL_law_61 : decode cL_law 61 = .ok (.iconst 0, 1) := by decide +kernel
theorem dL_law_62 : decode cL_law 62 = .ok (.istore_n 3, 1) := by decide +kernel
theorem dL_law_63 : decode cL_law 63 = .ok (.iload_n 3, 1) := by decide +kernel
theorem dL_law_64 : decode cL_law 64 = .ok (.iconst 5, 1) := by decide +kernel
theorem dL_law_65 : decode cL_law 65 = .ok (.if_icmp .ge 66, 3) := by decide +kernel
theorem dL_law_68 : decode cL_law 68 = .ok (.aload_n 1, 1) := by decide +kernel
theorem dL_law_69 : decode cL_law 69 = .ok (.aload_n 0, 1) := by decide +kernel
theorem dL_law_70 : decode cL_law 70 = .ok (.iload_n 3, 1) := by decide +kernel
theorem dL_law_71 : decode cL_law 71 = .ok (.invokestatic 16, 3) := by decide +kernel
theorem dL_law_74 : decode cL_law 74 = .ok (.iconst 5, 1) := by decide +kernel
theorem dL_law_75 : decode cL_law 75 = .ok (.invokestatic 22, 3) := by decide +kernel
theorem dL_law_78 : decode cL_law 78 = .ok (.aload_n 0, 1) := by decide +kernel
theorem dL_law_79 : decode cL_law 79 = .ok (.iload_n 3, 1) := by decide +kernel
theorem dL_law_80 : decode cL_law 80 = .ok (.invokestatic 16, 3) := by decide +kernel
theorem dL_law_83 : decode cL_law 83 = .ok (.iconst 3, 1) := by decide +kernel
theorem dL_law_84 : decode cL_law 84 = .ok (.ishr, 1) := by decide +kernel
theorem dL_law_85 : decode cL_law 85 = .ok (.iconst 4, 1) := by decide +kernel
theorem dL_law_86 : decode cL_law 86 = .ok (.invokestatic 22, 3) := by decide +kernel
theorem dL_law_89 : decode cL_law 89 = .ok (.bipush 20, 2) := by decide +kernel
theorem dL_law_91 : decode cL_law 91 = .ok (.aload_n 0, 1) := by decide +kernel
theorem dL_law_92 : decode cL_law 92 = .ok (.iload_n 3, 1) := by decide +kernel
theorem dL_law_93 : decode cL_law 93 = .ok (.iconst 1, 1) := by decide +kernel
theorem dL_law_94 : decode cL_law 94 = .ok (.iadd, 1) := by decide +kernel
theorem dL_law_95 : decode cL_law 95 = .ok (.invokestatic 16, 3) := by decide +kernel
theorem dL_law_98 : decode cL_law 98 = .ok (.bipush 100, 2) := by decide +kernel
theorem dL_law_100 : decode cL_law 100 = .ok (.invokestatic 22, 3) := by decide +kernel
theorem dL_law_103 : decode cL_law 103 = .ok (.iadd, 1) := by decide +kernel
theorem dL_law_104 : decode cL_law 104 = .ok (.aload_n 0, 1) := by decide +kernel
theorem dL_law_105 : decode cL_law 105 = .ok (.iload_n 3, 1) := by decide +kernel
theorem dL_law_106 : decode cL_law 106 = .ok (.iconst 2, 1) := by decide +kernel
theorem dL_law_107 : decode cL_law 107 = .ok (.iadd, 1) := by decide +kernel
theorem dL_law_108 : decode cL_law 108 = .ok (.invokestatic 16, 3) := by decide +kernel
theorem dL_law_111 : decode cL_law 111 = .ok (.bipush 10, 2) := by decide +kernel
theorem dL_law_113 : decode cL_law 113 = .ok (.invokestatic 22, 3) := by decide +kernel
theorem dL_law_116 : decode cL_law 116 = .ok (.invokevirtual 26, 3) := by decide +kernel
theorem dL_law_119 : decode cL_law 119 = .ok (.iload_n 3, 1) := by decide +kernel
theorem dL_law_120 : decode cL_law 120 = .ok (.if_icmp .eq 5, 3) := by decide +kernel
theorem dL_law_123 : decode cL_law 123 = .ok (.iconst 0, 1) := by decide +kernel
theorem dL_law_124 : decode cL_law 124 = .ok (.ireturn, 1) := by decide +kernel
theorem dL_law_125 : decode cL_law 125 = .ok (.iinc 3 1, 3) := by decide +kernel
theorem dL_law_128 : decode cL_law 128 = .ok (.goto (-65), 3) := by decide +kernel
theorem dL_law_131 : decode cL_law 131 = .ok (.iconst 0, 1) := by decide +kernel
theorem dL_law_132 : decode cL_law 132 = .ok (.istore_n 3, 1) := by decide +kernel
theorem dL_law_133 : decode cL_law 133 = .ok (.iload_n 3, 1) := by decide +kernel
theorem dL_law_134 : decode cL_law 134 = .ok (.bipush 25, 2) := by decide +kernel
theorem dL_law_136 : decode cL_law 136 = .ok (.if_icmp .ge 35, 3) := by decide +kernel
theorem dL_law_139 : decode cL_law 139 = .ok (.aload_n 1, 1) := by decide +kernel
theorem dL_law_140 : decode cL_law 140 = .ok (.iload_n 3, 1) := by decide +kernel
theorem dL_law_141 : decode cL_law 141 = .ok (.aload_n 0, 1) := by decide +kernel
theorem dL_law_142 : decode cL_law 142 = .ok (.iload_n 3, 1) := by decide +kernel
theorem dL_law_143 : decode cL_law 143 = .ok (.bipush 16, 2) := by decide +kernel
theorem dL_law_145 : decode cL_law 145 = .ok (.irem, 1) := by decide +kernel
theorem dL_law_146 : decode cL_law 146 = .ok (.invokestatic 16, 3) := by decide +kernel
theorem dL_law_149 : decode cL_law 149 = .ok (.iload_n 3, 1) := by decide +kernel
theorem dL_law_150 : decode cL_law 150 = .ok (.iconst 5, 1) := by decide +kernel
theorem dL_law_151 : decode cL_law 151 = .ok (.irem, 1) := by decide +kernel
theorem dL_law_152 : decode cL_law 152 = .ok (.ishr, 1) := by decide +kernel
theorem dL_law_153 : decode cL_law 153 = .ok (.iconst 4, 1) := by decide +kernel
theorem dL_law_154 : decode cL_law 154 = .ok (.invokestatic 22, 3) := by decide +kernel
theorem dL_law_157 : decode cL_law 157 = .ok (.invokevirtual 30, 3) := by decide +kernel
theorem dL_law_160 : decode cL_law 160 = .ok (.ifCond .eq 5, 3) := by decide +kernel
theorem dL_law_163 : decode cL_law 163 = .ok (.iconst 0, 1) := by decide +kernel
theorem dL_law_164 : decode cL_law 164 = .ok (.ireturn, 1) := by decide +kernel
theorem dL_law_165 : decode cL_law 165 = .ok (.iinc 3 1, 3) := by decide +kernel
theorem dL_law_168 : decode cL_law 168 = .ok (.goto (-35), 3) := by decide +kernel
theorem dL_law_171 : decode cL_law 171 = .ok (.iconst 1, 1) := by decide +kernel
theorem dL_law_172 : decode cL_law 172 = .ok (.istore_n 3, 1) := by decide +kernel
theorem dL_law_173 : decode cL_law 173 = .ok (.iconst 0, 1) := by decide +kernel
theorem dL_law_174 : decode cL_law 174 = .ok (.istore 4, 2) := by decide +kernel
theorem dL_law_176 : decode cL_law 176 = .ok (.iload 4, 2) := by decide +kernel
theorem dL_law_178 : decode cL_law 178 = .ok (.bipush 44, 2) := by decide +kernel
theorem dL_law_180 : decode cL_law 180 = .ok (.if_icmp .ge 533, 3) := by decide +kernel
theorem dL_law_183 : decode cL_law 183 = .ok (.aload_n 0, 1) := by decide +kernel
theorem dL_law_184 : decode cL_law 184 = .ok (.iload 4, 2) := by decide +kernel
theorem dL_law_186 : decode cL_law 186 = .ok (.bipush 16, 2) := by decide +kernel
theorem dL_law_188 : decode cL_law 188 = .ok (.irem, 1) := by decide +kernel
theorem dL_law_189 : decode cL_law 189 = .ok (.invokestatic 16, 3) := by decide +kernel
theorem dL_law_192 : decode cL_law 192 = .ok (.bipush 31, 2) := by decide +kernel
theorem dL_law_194 : decode cL_law 194 = .ok (.iload 4, 2) := by decide +kernel
theorem dL_law_196 : decode cL_law 196 = .ok (.imul, 1) := by decide +kernel
theorem dL_law_197 : decode cL_law 197 = .ok (.iadd, 1) := by decide +kernel
theorem dL_law_198 : decode cL_law 198 = .ok (.istore 5, 2) := by decide +kernel
theorem dL_law_200 : decode cL_law 200 = .ok (.aload_n 0, 1) := by decide +kernel
theorem dL_law_201 : decode cL_law 201 = .ok (.bipush 7, 2) := by decide +kernel
theorem dL_law_203 : decode cL_law 203 = .ok (.iload 4, 2) := by decide +kernel
theorem dL_law_205 : decode cL_law 205 = .ok (.imul, 1) := by decide +kernel
theorem dL_law_206 : decode cL_law 206 = .ok (.iconst 3, 1) := by decide +kernel
theorem dL_law_207 : decode cL_law 207 = .ok (.iadd, 1) := by decide +kernel
theorem dL_law_208 : decode cL_law 208 = .ok (.bipush 16, 2) := by decide +kernel
theorem dL_law_210 : decode cL_law 210 = .ok (.irem, 1) := by decide +kernel
theorem dL_law_211 : decode cL_law 211 = .ok (.invokestatic 16, 3) := by decide +kernel
theorem dL_law_214 : decode cL_law 214 = .ok (.iconst 5, 1) := by decide +kernel
theorem dL_law_215 : decode cL_law 215 = .ok (.iload 4, 2) := by decide +kernel
theorem dL_law_217 : decode cL_law 217 = .ok (.imul, 1) := by decide +kernel
theorem dL_law_218 : decode cL_law 218 = .ok (.iadd, 1) := by decide +kernel
theorem dL_law_219 : decode cL_law 219 = .ok (.istore 6, 2) := by decide +kernel
theorem dL_law_221 : decode cL_law 221 = .ok (.iload 6, 2) := by decide +kernel
theorem dL_law_223 : decode cL_law 223 = .ok (.iconst 5, 1) := by decide +kernel
theorem dL_law_224 : decode cL_law 224 = .ok (.invokestatic 22, 3) := by decide +kernel
theorem dL_law_227 : decode cL_law 227 = .ok (.istore 7, 2) := by decide +kernel
theorem dL_law_229 : decode cL_law 229 = .ok (.iload 5, 2) := by decide +kernel
theorem dL_law_231 : decode cL_law 231 = .ok (.bipush 13, 2) := by decide +kernel
theorem dL_law_233 : decode cL_law 233 = .ok (.invokestatic 22, 3) := by decide +kernel
theorem dL_law_236 : decode cL_law 236 = .ok (.tableswitch 436 0 9 #[56, 82, 146, 239, 300, 354, 354, 354, 354, 374], 56) := by decide +kernel
theorem dL_law_292 : decode cL_law 292 = .ok (.aload_n 1, 1) := by decide +kernel
theorem dL_law_293 : decode cL_law 293 = .ok (.iload 5, 2) := by decide +kernel
theorem dL_law_295 : decode cL_law 295 = .ok (.iconst 4, 1) := by decide +kernel
theorem dL_law_296 : decode cL_law 296 = .ok (.ishr, 1) := by decide +kernel
theorem dL_law_297 : decode cL_law 297 = .ok (.iconst 4, 1) := by decide +kernel
theorem dL_law_298 : decode cL_law 298 = .ok (.invokestatic 22, 3) := by decide +kernel
theorem dL_law_301 : decode cL_law 301 = .ok (.iload 6, 2) := by decide +kernel
theorem dL_law_303 : decode cL_law 303 = .ok (.iconst 3, 1) := by decide +kernel
theorem dL_law_304 : decode cL_law 304 = .ok (.ishr, 1) := by decide +kernel
theorem dL_law_305 : decode cL_law 305 = .ok (.iconst 4, 1) := by decide +kernel
theorem dL_law_306 : decode cL_law 306 = .ok (.invokestatic 22, 3) := by decide +kernel
theorem dL_law_309 : decode cL_law 309 = .ok (.invokevirtual 33, 3) := by decide +kernel
theorem dL_law_312 : decode cL_law 312 = .ok (.iconst 3, 1) := by decide +kernel
theorem dL_law_313 : decode cL_law 313 = .ok (.if_icmp .le 394, 3) := by decide +kernel
theorem dL_law_316 : decode cL_law 316 = .ok (.iconst 0, 1) := by decide +kernel
theorem dL_law_317 : decode cL_law 317 = .ok (.ireturn, 1) := by decide +kernel
theorem dL_law_318 : decode cL_law 318 = .ok (.aload_n 1, 1) := by decide +kernel
theorem dL_law_319 : decode cL_law 319 = .ok (.iconst 2, 1) := by decide +kernel
theorem dL_law_320 : decode cL_law 320 = .ok (.invokevirtual 36, 3) := by decide +kernel
theorem dL_law_323 : decode cL_law 323 = .ok (.bipush 6, 2) := by decide +kernel
theorem dL_law_325 : decode cL_law 325 = .ok (.if_icmp .ge 382, 3) := by decide +kernel
theorem dL_law_328 : decode cL_law 328 = .ok (.aload_n 1, 1) := by decide +kernel
theorem dL_law_329 : decode cL_law 329 = .ok (.iload 5, 2) := by decide +kernel
theorem dL_law_331 : decode cL_law 331 = .ok (.iconst 4, 1) := by decide +kernel
theorem dL_law_332 : decode cL_law 332 = .ok (.ishr, 1) := by decide +kernel
theorem dL_law_333 : decode cL_law 333 = .ok (.bipush 25, 2) := by decide +kernel
theorem dL_law_335 : decode cL_law 335 = .ok (.invokestatic 22, 3) := by decide +kernel
theorem dL_law_338 : decode cL_law 338 = .ok (.iload 6, 2) := by decide +kernel
theorem dL_law_340 : decode cL_law 340 = .ok (.iconst 2, 1) := by decide +kernel
theorem dL_law_341 : decode cL_law 341 = .ok (.ishr, 1) := by decide +kernel
theorem dL_law_342 : decode cL_law 342 = .ok (.bipush 24, 2) := by decide +kernel
theorem dL_law_344 : decode cL_law 344 = .ok (.invokestatic 22, 3) := by decide +kernel
theorem dL_law_347 : decode cL_law 347 = .ok (.iload 6, 2) := by decide +kernel
theorem dL_law_349 : decode cL_law 349 = .ok (.iconst 4, 1) := by decide +kernel
theorem dL_law_350 : decode cL_law 350 = .ok (.ishr, 1) := by decide +kernel
theorem dL_law_351 : decode cL_law 351 = .ok (.bipush 24, 2) := by decide +kernel
theorem dL_law_353 : decode cL_law 353 = .ok (.invokestatic 22, 3) := by decide +kernel
theorem dL_law_356 : decode cL_law 356 = .ok (.iconst 1, 1) := by decide +kernel
theorem dL_law_357 : decode cL_law 357 = .ok (.iload 5, 2) := by decide +kernel
theorem dL_law_359 : decode cL_law 359 = .ok (.bipush 6, 2) := by decide +kernel
theorem dL_law_361 : decode cL_law 361 = .ok (.ishr, 1) := by decide +kernel
theorem dL_law_362 : decode cL_law 362 = .ok (.iconst 4, 1) := by decide +kernel
theorem dL_law_363 : decode cL_law 363 = .ok (.invokestatic 22, 3) := by decide +kernel
theorem dL_law_366 : decode cL_law 366 = .ok (.iadd, 1) := by decide +kernel
theorem dL_law_367 : decode cL_law 367 = .ok (.invokevirtual 39, 3) := by decide +kernel
theorem dL_law_370 : decode cL_law 370 = .ok (.aload_n 1, 1) := by decide +kernel
theorem dL_law_371 : decode cL_law 371 = .ok (.iconst 2, 1) := by decide +kernel
theorem dL_law_372 : decode cL_law 372 = .ok (.invokevirtual 36, 3) := by decide +kernel
theorem dL_law_375 : decode cL_law 375 = .ok (.iconst 1, 1) := by decide +kernel
theorem dL_law_376 : decode cL_law 376 = .ok (.isub, 1) := by decide +kernel
theorem dL_law_377 : decode cL_law 377 = .ok (.if_icmp .eq 330, 3) := by decide +kernel
theorem dL_law_380 : decode cL_law 380 = .ok (.iconst 0, 1) := by decide +kernel
theorem dL_law_381 : decode cL_law 381 = .ok (.ireturn, 1) := by decide +kernel
theorem dL_law_382 : decode cL_law 382 = .ok (.iload 5, 2) := by decide +kernel
theorem dL_law_384 : decode cL_law 384 = .ok (.iconst 4, 1) := by decide +kernel
theorem dL_law_385 : decode cL_law 385 = .ok (.ishr, 1) := by decide +kernel
theorem dL_law_386 : decode cL_law 386 = .ok (.bipush 25, 2) := by decide +kernel
theorem dL_law_388 : decode cL_law 388 = .ok (.invokestatic 22, 3) := by decide +kernel
theorem dL_law_391 : decode cL_law 391 = .ok (.istore 8, 2) := by decide +kernel
theorem dL_law_393 : decode cL_law 393 = .ok (.aload_n 1, 1) := by decide +kernel
theorem dL_law_394 : decode cL_law 394 = .ok (.iload 8, 2) := by decide +kernel
theorem dL_law_396 : decode cL_law 396 = .ok (.iconst 1, 1) := by decide +kernel
theorem dL_law_397 : decode cL_law 397 = .ok (.invokevirtual 42, 3) := by decide +kernel
theorem dL_law_400 : decode cL_law 400 = .ok (.iconst 1, 1) := by decide +kernel
theorem dL_law_401 : decode cL_law 401 = .ok (.if_icmp .ne 7, 3) := by decide +kernel
theorem dL_law_404 : decode cL_law 404 = .ok (.iconst 1, 1) := by decide +kernel
theorem dL_law_405 : decode cL_law 405 = .ok (.goto 4, 3) := by decide +kernel
theorem dL_law_408 : decode cL_law 408 = .ok (.iconst 0, 1) := by decide +kernel
theorem dL_law_409 : decode cL_law 409 = .ok (.istore 9, 2) := by decide +kernel
theorem dL_law_411 : decode cL_law 411 = .ok (.iload 6, 2) := by decide +kernel
theorem dL_law_413 : decode cL_law 413 = .ok (.iconst 3, 1) := by decide +kernel
theorem dL_law_414 : decode cL_law 414 = .ok (.ishr, 1) := by decide +kernel
theorem dL_law_415 : decode cL_law 415 = .ok (.iconst 3, 1) := by decide +kernel
theorem dL_law_416 : decode cL_law 416 = .ok (.invokestatic 22, 3) := by decide +kernel
theorem dL_law_419 : decode cL_law 419 = .ok (.ifCond .ne 7, 3) := by decide +kernel
theorem dL_law_422 : decode cL_law 422 = .ok (.iconst 1, 1) := by decide +kernel
theorem dL_law_423 : decode cL_law 423 = .ok (.goto 4, 3) := by decide +kernel
theorem dL_law_426 : decode cL_law 426 = .ok (.iconst 0, 1) := by decide +kernel
theorem dL_law_427 : decode cL_law 427 = .ok (.istore 10, 2) := by decide +kernel
theorem dL_law_429 : decode cL_law 429 = .ok (.aload_n 1, 1) := by decide +kernel
theorem dL_law_430 : decode cL_law 430 = .ok (.iload 8, 2) := by decide +kernel
theorem dL_law_432 : decode cL_law 432 = .ok (.iconst 2, 1) := by decide +kernel
theorem dL_law_433 : decode cL_law 433 = .ok (.invokevirtual 42, 3) := by decide +kernel
theorem dL_law_436 : decode cL_law 436 = .ok (.iconst (-1), 1) := by decide +kernel
theorem dL_law_437 : decode cL_law 437 = .ok (.if_icmp .ne 270, 3) := by decide +kernel
theorem dL_law_440 : decode cL_law 440 = .ok (.aload_n 1, 1) := by decide +kernel
theorem dL_law_441 : decode cL_law 441 = .ok (.iload 8, 2) := by decide +kernel
theorem dL_law_443 : decode cL_law 443 = .ok (.iload 10, 2) := by decide +kernel
theorem dL_law_445 : decode cL_law 445 = .ok (.invokevirtual 45, 3) := by decide +kernel
theorem dL_law_448 : decode cL_law 448 = .ok (.iload 9, 2) := by decide +kernel
theorem dL_law_450 : decode cL_law 450 = .ok (.if_icmp .ne 23, 3) := by decide +kernel
theorem dL_law_453 : decode cL_law 453 = .ok (.aload_n 1, 1) := by decide +kernel
theorem dL_law_454 : decode cL_law 454 = .ok (.iload 8, 2) := by decide +kernel
theorem dL_law_456 : decode cL_law 456 = .ok (.iconst 1, 1) := by decide +kernel
theorem dL_law_457 : decode cL_law 457 = .ok (.invokevirtual 42, 3) := by decide +kernel
theorem dL_law_460 : decode cL_law 460 = .ok (.iload 10, 2) := by decide +kernel
theorem dL_law_462 : decode cL_law 462 = .ok (.ifCond .eq 7, 3) := by decide +kernel
theorem dL_law_465 : decode cL_law 465 = .ok (.iconst 1, 1) := by decide +kernel
theorem dL_law_466 : decode cL_law 466 = .ok (.goto 4, 3) := by decide +kernel
theorem dL_law_469 : decode cL_law 469 = .ok (.iconst 0, 1) := by decide +kernel
theorem dL_law_470 : decode cL_law 470 = .ok (.if_icmp .eq 237, 3) := by decide +kernel
theorem dL_law_473 : decode cL_law 473 = .ok (.iconst 0, 1) := by decide +kernel
theorem dL_law_474 : decode cL_law 474 = .ok (.ireturn, 1) := by decide +kernel
theorem dL_law_475 : decode cL_law 475 = .ok (.iload 6, 2) := by decide +kernel
theorem dL_law_477 : decode cL_law 477 = .ok (.iconst 3, 1) := by decide +kernel
theorem dL_law_478 : decode cL_law 478 = .ok (.ishr, 1) := by decide +kernel
theorem dL_law_479 : decode cL_law 479 = .ok (.iconst 3, 1) := by decide +kernel
theorem dL_law_480 : decode cL_law 480 = .ok (.invokestatic 22, 3) := by decide +kernel
theorem dL_law_483 : decode cL_law 483 = .ok (.ifCond .le 6, 3) := by decide +kernel
theorem dL_law_486 : decode cL_law 486 = .ok (.goto 221, 3) := by decide +kernel
theorem dL_law_489 : decode cL_law 489 = .ok (.aload_n 1, 1) := by decide +kernel
theorem dL_law_490 : decode cL_law 490 = .ok (.iload 7, 2) := by decide +kernel
theorem dL_law_492 : decode cL_law 492 = .ok (.iconst 5, 1) := by decide +kernel
theorem dL_law_493 : decode cL_law 493 = .ok (.invokevirtual 49, 3) := by decide +kernel
theorem dL_law_496 : decode cL_law 496 = .ok (.iconst 1, 1) := by decide +kernel
theorem dL_law_497 : decode cL_law 497 = .ok (.if_icmp .ne 7, 3) := by decide +kernel
theorem dL_law_500 : decode cL_law 500 = .ok (.iconst 1, 1) := by decide +kernel
theorem dL_law_501 : decode cL_law 501 = .ok (.goto 4, 3) := by decide +kernel
theorem dL_law_504 : decode cL_law 504 = .ok (.iconst 0, 1) := by decide +kernel
theorem dL_law_505 : decode cL_law 505 = .ok (.istore 11, 2) := by decide +kernel
theorem dL_law_507 : decode cL_law 507 = .ok (.aload_n 1, 1) := by decide +kernel
theorem dL_law_508 : decode cL_law 508 = .ok (.iload 7, 2) := by decide +kernel
theorem dL_law_510 : decode cL_law 510 = .ok (.iconst 0, 1) := by decide +kernel
theorem dL_law_511 : decode cL_law 511 = .ok (.invokevirtual 52, 3) := by decide +kernel
theorem dL_law_514 : decode cL_law 514 = .ok (.iload 11, 2) := by decide +kernel
theorem dL_law_516 : decode cL_law 516 = .ok (.if_icmp .ne 13, 3) := by decide +kernel
theorem dL_law_519 : decode cL_law 519 = .ok (.aload_n 1, 1) := by decide +kernel
theorem dL_law_520 : decode cL_law 520 = .ok (.iload 7, 2) := by decide +kernel
theorem dL_law_522 : decode cL_law 522 = .ok (.iconst 5, 1) := by decide +kernel
theorem dL_law_523 : decode cL_law 523 = .ok (.invokevirtual 49, 3) := by decide +kernel
theorem dL_law_526 : decode cL_law 526 = .ok (.ifCond .eq 5, 3) := by decide +kernel
theorem dL_law_529 : decode cL_law 529 = .ok (.iconst 0, 1) := by decide +kernel
theorem dL_law_530 : decode cL_law 530 = .ok (.ireturn, 1) := by decide +kernel
theorem dL_law_531 : decode cL_law 531 = .ok (.iconst 0, 1) := by decide +kernel
theorem dL_law_532 : decode cL_law 532 = .ok (.istore_n 3, 1) := by decide +kernel
theorem dL_law_533 : decode cL_law 533 = .ok (.goto 174, 3) := by decide +kernel
theorem dL_law_536 : decode cL_law 536 = .ok (.aload_n 1, 1) := by decide +kernel
theorem dL_law_537 : decode cL_law 537 = .ok (.iload 7, 2) := by decide +kernel
theorem dL_law_539 : decode cL_law 539 = .ok (.bipush 6, 2) := by decide +kernel
theorem dL_law_541 : decode cL_law 541 = .ok (.invokevirtual 49, 3) := by decide +kernel
theorem dL_law_544 : decode cL_law 544 = .ok (.iconst 2, 1) := by decide +kernel
theorem dL_law_545 : decode cL_law 545 = .ok (.if_icmp .ne 162, 3) := by decide +kernel
theorem dL_law_548 : decode cL_law 548 = .ok (.aload_n 1, 1) := by decide +kernel
theorem dL_law_549 : decode cL_law 549 = .ok (.iload 7, 2) := by decide +kernel
theorem dL_law_551 : decode cL_law 551 = .ok (.invokevirtual 55, 3) := by decide +kernel
theorem dL_law_554 : decode cL_law 554 = .ok (.ifCond .lt 34, 3) := by decide +kernel
theorem dL_law_557 : decode cL_law 557 = .ok (.aload_n 1, 1) := by decide +kernel
theorem dL_law_558 : decode cL_law 558 = .ok (.iload 7, 2) := by decide +kernel
theorem dL_law_560 : decode cL_law 560 = .ok (.bipush 6, 2) := by decide +kernel
theorem dL_law_562 : decode cL_law 562 = .ok (.invokevirtual 49, 3) := by decide +kernel
theorem dL_law_565 : decode cL_law 565 = .ok (.ifCond .ne 23, 3) := by decide +kernel
theorem dL_law_568 : decode cL_law 568 = .ok (.aload_n 1, 1) := by decide +kernel
theorem dL_law_569 : decode cL_law 569 = .ok (.iload 7, 2) := by decide +kernel
theorem dL_law_571 : decode cL_law 571 = .ok (.bipush 7, 2) := by decide +kernel
theorem dL_law_573 : decode cL_law 573 = .ok (.invokevirtual 49, 3) := by decide +kernel
theorem dL_law_576 : decode cL_law 576 = .ok (.aload_n 2, 1) := by decide +kernel
theorem dL_law_577 : decode cL_law 577 = .ok (.aload_n 1, 1) := by decide +kernel
theorem dL_law_578 : decode cL_law 578 = .ok (.iload 7, 2) := by decide +kernel
theorem dL_law_580 : decode cL_law 580 = .ok (.iconst 1, 1) := by decide +kernel
theorem dL_law_581 : decode cL_law 581 = .ok (.invokevirtual 49, 3) := by decide +kernel
theorem dL_law_584 : decode cL_law 584 = .ok (.iaload, 1) := by decide +kernel
theorem dL_law_585 : decode cL_law 585 = .ok (.if_icmp .eq 122, 3) := by decide +kernel
theorem dL_law_588 : decode cL_law 588 = .ok (.iconst 0, 1) := by decide +kernel
theorem dL_law_589 : decode cL_law 589 = .ok (.ireturn, 1) := by decide +kernel
theorem dL_law_590 : decode cL_law 590 = .ok (.aload_n 1, 1) := by decide +kernel
theorem dL_law_591 : decode cL_law 591 = .ok (.aload_n 2, 1) := by decide +kernel
theorem dL_law_592 : decode cL_law 592 = .ok (.iload 7, 2) := by decide +kernel
theorem dL_law_594 : decode cL_law 594 = .ok (.iload 5, 2) := by decide +kernel
theorem dL_law_596 : decode cL_law 596 = .ok (.iconst 4, 1) := by decide +kernel
theorem dL_law_597 : decode cL_law 597 = .ok (.ishr, 1) := by decide +kernel
theorem dL_law_598 : decode cL_law 598 = .ok (.iload 6, 2) := by decide +kernel
theorem dL_law_600 : decode cL_law 600 = .ok (.iconst 2, 1) := by decide +kernel
theorem dL_law_601 : decode cL_law 601 = .ok (.ishr, 1) := by decide +kernel
theorem dL_law_602 : decode cL_law 602 = .ok (.invokestatic 58, 3) := by decide +kernel
theorem dL_law_605 : decode cL_law 605 = .ok (.ifCond .ne 102, 3) := by decide +kernel
theorem dL_law_608 : decode cL_law 608 = .ok (.iconst 0, 1) := by decide +kernel
theorem dL_law_609 : decode cL_law 609 = .ok (.ireturn, 1) := by decide +kernel
theorem dL_law_610 : decode cL_law 610 = .ok (.aload_n 1, 1) := by decide +kernel
theorem dL_law_611 : decode cL_law 611 = .ok (.iconst 4, 1) := by decide +kernel
theorem dL_law_612 : decode cL_law 612 = .ok (.invokevirtual 36, 3) := by decide +kernel
theorem dL_law_615 : decode cL_law 615 = .ok (.ifCond .ne 6, 3) := by decide +kernel
theorem dL_law_618 : decode cL_law 618 = .ok (.goto 89, 3) := by decide +kernel
theorem dL_law_621 : decode cL_law 621 = .ok (.iload 6, 2) := by decide +kernel
theorem dL_law_623 : decode cL_law 623 = .ok (.aload_n 1, 1) := by decide +kernel
theorem dL_law_624 : decode cL_law 624 = .ok (.iconst 4, 1) := by decide +kernel
theorem dL_law_625 : decode cL_law 625 = .ok (.invokevirtual 36, 3) := by decide +kernel
theorem dL_law_628 : decode cL_law 628 = .ok (.invokestatic 22, 3) := by decide +kernel
theorem dL_law_631 : decode cL_law 631 = .ok (.istore 12, 2) := by decide +kernel
theorem dL_law_633 : decode cL_law 633 = .ok (.aload_n 1, 1) := by decide +kernel
theorem dL_law_634 : decode cL_law 634 = .ok (.iload 12, 2) := by decide +kernel
theorem dL_law_636 : decode cL_law 636 = .ok (.iconst 0, 1) := by decide +kernel
theorem dL_law_637 : decode cL_law 637 = .ok (.invokevirtual 62, 3) := by decide +kernel
theorem dL_law_640 : decode cL_law 640 = .ok (.ifCond .ne 67, 3) := by decide +kernel
theorem dL_law_643 : decode cL_law 643 = .ok (.aload_n 1, 1) := by decide +kernel
theorem dL_law_644 : decode cL_law 644 = .ok (.iload 12, 2) := by decide +kernel
theorem dL_law_646 : decode cL_law 646 = .ok (.invokevirtual 65, 3) := by decide +kernel
theorem dL_law_649 : decode cL_law 649 = .ok (.aload_n 1, 1) := by decide +kernel
theorem dL_law_650 : decode cL_law 650 = .ok (.iload 12, 2) := by decide +kernel
theorem dL_law_652 : decode cL_law 652 = .ok (.iconst 2, 1) := by decide +kernel
theorem dL_law_653 : decode cL_law 653 = .ok (.invokevirtual 62, 3) := by decide +kernel
theorem dL_law_656 : decode cL_law 656 = .ok (.if_icmp .ne 14, 3) := by decide +kernel
theorem dL_law_659 : decode cL_law 659 = .ok (.aload_n 1, 1) := by decide +kernel
theorem dL_law_660 : decode cL_law 660 = .ok (.iload 12, 2) := by decide +kernel
theorem dL_law_662 : decode cL_law 662 = .ok (.iconst 0, 1) := by decide +kernel
theorem dL_law_663 : decode cL_law 663 = .ok (.invokevirtual 62, 3) := by decide +kernel
theorem dL_law_666 : decode cL_law 666 = .ok (.iconst 3, 1) := by decide +kernel
theorem dL_law_667 : decode cL_law 667 = .ok (.if_icmp .eq 40, 3) := by decide +kernel
theorem dL_law_670 : decode cL_law 670 = .ok (.iconst 0, 1) := by decide +kernel
theorem dL_law_671 : decode cL_law 671 = .ok (.ireturn, 1) := by decide +kernel
theorem dL_law_672 : decode cL_law 672 = .ok (.iconst 0, 1) := by decide +kernel
theorem dL_law_673 : decode cL_law 673 = .ok (.istore 13, 2) := by decide +kernel
theorem dL_law_675 : decode cL_law 675 = .ok (.iload 13, 2) := by decide +kernel
theorem dL_law_677 : decode cL_law 677 = .ok (.iconst 1, 1) := by decide +kernel
theorem dL_law_678 : decode cL_law 678 = .ok (.iload 6, 2) := by decide +kernel
theorem dL_law_680 : decode cL_law 680 = .ok (.iconst 3, 1) := by decide +kernel
theorem dL_law_681 : decode cL_law 681 = .ok (.ishr, 1) := by decide +kernel
theorem dL_law_682 : decode cL_law 682 = .ok (.bipush 6, 2) := by decide +kernel
theorem dL_law_684 : decode cL_law 684 = .ok (.invokestatic 22, 3) := by decide +kernel
theorem dL_law_687 : decode cL_law 687 = .ok (.iadd, 1) := by decide +kernel
theorem dL_law_688 : decode cL_law 688 = .ok (.if_icmp .ge 19, 3) := by decide +kernel
theorem dL_law_691 : decode cL_law 691 = .ok (.aload_n 1, 1) := by decide +kernel
theorem dL_law_692 : decode cL_law 692 = .ok (.iload_n 3, 1) := by decide +kernel
theorem dL_law_693 : decode cL_law 693 = .ok (.invokestatic 68, 3) := by decide +kernel
theorem dL_law_696 : decode cL_law 696 = .ok (.ifCond .ne 5, 3) := by decide +kernel
theorem dL_law_699 : decode cL_law 699 = .ok (.iconst 0, 1) := by decide +kernel
theorem dL_law_700 : decode cL_law 700 = .ok (.ireturn, 1) := by decide +kernel
theorem dL_law_701 : decode cL_law 701 = .ok (.iinc 13 1, 3) := by decide +kernel
theorem dL_law_704 : decode cL_law 704 = .ok (.goto (-29), 3) := by decide +kernel
theorem dL_law_707 : decode cL_law 707 = .ok (.iinc 4 1, 3) := by decide +kernel
theorem dL_law_710 : decode cL_law 710 = .ok (.goto (-534), 3) := by decide +kernel
theorem dL_law_713 : decode cL_law 713 = .ok (.aload_n 1, 1) := by decide +kernel
theorem dL_law_714 : decode cL_law 714 = .ok (.invokevirtual 72, 3) := by decide +kernel
theorem dL_law_717 : decode cL_law 717 = .ok (.lstore 4, 2) := by decide +kernel
theorem dL_law_719 : decode cL_law 719 = .ok (.iconst 0, 1) := by decide +kernel
theorem dL_law_720 : decode cL_law 720 = .ok (.istore 6, 2) := by decide +kernel
theorem dL_law_722 : decode cL_law 722 = .ok (.bipush 6, 2) := by decide +kernel
theorem dL_law_724 : decode cL_law 724 = .ok (.istore 7, 2) := by decide +kernel
theorem dL_law_726 : decode cL_law 726 = .ok (.iload 7, 2) := by decide +kernel
theorem dL_law_728 : decode cL_law 728 = .ok (.bipush 13, 2) := by decide +kernel
theorem dL_law_730 : decode cL_law 730 = .ok (.if_icmp .ge 20, 3) := by decide +kernel
theorem dL_law_733 : decode cL_law 733 = .ok (.iload 6, 2) := by decide +kernel
theorem dL_law_735 : decode cL_law 735 = .ok (.aload_n 1, 1) := by decide +kernel
theorem dL_law_736 : decode cL_law 736 = .ok (.iload 7, 2) := by decide +kernel
theorem dL_law_738 : decode cL_law 738 = .ok (.invokevirtual 36, 3) := by decide +kernel
theorem dL_law_741 : decode cL_law 741 = .ok (.iadd, 1) := by decide +kernel
theorem dL_law_742 : decode cL_law 742 = .ok (.istore 6, 2) := by decide +kernel
theorem dL_law_744 : decode cL_law 744 = .ok (.iinc 7 1, 3) := by decide +kernel
theorem dL_law_747 : decode cL_law 747 = .ok (.goto (-21), 3) := by decide +kernel
theorem dL_law_750 : decode cL_law 750 = .ok (.iload 6, 2) := by decide +kernel
theorem dL_law_752 : decode cL_law 752 = .ok (.aload_n 1, 1) := by decide +kernel
theorem dL_law_753 : decode cL_law 753 = .ok (.iconst 4, 1) := by decide +kernel
theorem dL_law_754 : decode cL_law 754 = .ok (.invokevirtual 36, 3) := by decide +kernel
theorem dL_law_757 : decode cL_law 757 = .ok (.if_icmp .ne 30, 3) := by decide +kernel
theorem dL_law_760 : decode cL_law 760 = .ok (.aload_n 1, 1) := by decide +kernel
theorem dL_law_761 : decode cL_law 761 = .ok (.bipush 9, 2) := by decide +kernel
theorem dL_law_763 : decode cL_law 763 = .ok (.invokevirtual 76, 3) := by decide +kernel
theorem dL_law_766 : decode cL_law 766 = .ok (.ifCond .lt 21, 3) := by decide +kernel
theorem dL_law_769 : decode cL_law 769 = .ok (.aload_n 1, 1) := by decide +kernel
theorem dL_law_770 : decode cL_law 770 = .ok (.invokevirtual 79, 3) := by decide +kernel
theorem dL_law_773 : decode cL_law 773 = .ok (.dconst 1, 1) := by decide +kernel
theorem dL_law_774 : decode cL_law 774 = .ok (.dcmp .l, 1) := by decide +kernel
theorem dL_law_775 : decode cL_law 775 = .ok (.ifCond .gt 12, 3) := by decide +kernel
theorem dL_law_778 : decode cL_law 778 = .ok (.aload_n 1, 1) := by decide +kernel
theorem dL_law_779 : decode cL_law 779 = .ok (.invokevirtual 79, 3) := by decide +kernel
theorem dL_law_782 : decode cL_law 782 = .ok (.dconst 0, 1) := by decide +kernel
theorem dL_law_783 : decode cL_law 783 = .ok (.dcmp .g, 1) := by decide +kernel
theorem dL_law_784 : decode cL_law 784 = .ok (.ifCond .ge 5, 3) := by decide +kernel
theorem dL_law_787 : decode cL_law 787 = .ok (.iconst 0, 1) := by decide +kernel
theorem dL_law_788 : decode cL_law 788 = .ok (.ireturn, 1) := by decide +kernel
theorem dL_law_789 : decode cL_law 789 = .ok (.aload_n 1, 1) := by decide +kernel
theorem dL_law_790 : decode cL_law 790 = .ok (.invokevirtual 72, 3) := by decide +kernel
theorem dL_law_793 : decode cL_law 793 = .ok (.lload 4, 2) := by decide +kernel
theorem dL_law_795 : decode cL_law 795 = .ok (.lcmp, 1) := by decide +kernel
theorem dL_law_796 : decode cL_law 796 = .ok (.ifCond .ne 7, 3) := by decide +kernel
theorem dL_law_799 : decode cL_law 799 = .ok (.iconst 1, 1) := by decide +kernel
theorem dL_law_800 : decode cL_law 800 = .ok (.goto 4, 3) := by decide +kernel
theorem dL_law_803 : decode cL_law 803 = .ok (.iconst 0, 1) := by decide +kernel
theorem dL_law_804 : decode cL_law 804 = .ok (.ireturn, 1) := by decide +kernel
theorem dL_isAsked_0 : decode cL_isAsked 0 = .ok (.aload_n 0, 1) := by decide +kernel
theorem dL_isAsked_1 : decode cL_isAsked 1 = .ok (.invokevirtual 83, 3) := by decide +kernel
theorem dL_isAsked_4 : decode cL_isAsked 4 = .ok (.ifCond .lt 11, 3) := by decide +kernel
theorem dL_isAsked_7 : decode cL_isAsked 7 = .ok (.aload_n 0, 1) := by decide +kernel
theorem dL_isAsked_8 : decode cL_isAsked 8 = .ok (.iconst 5, 1) := by decide +kernel
theorem dL_isAsked_9 : decode cL_isAsked 9 = .ok (.invokevirtual 36, 3) := by decide +kernel
theorem dL_isAsked_12 : decode cL_isAsked 12 = .ok (.ifCond .eq 5, 3) := by decide +kernel
theorem dL_isAsked_15 : decode cL_isAsked 15 = .ok (.iconst 0, 1) := by decide +kernel
theorem dL_isAsked_16 : decode cL_isAsked 16 = .ok (.ireturn, 1) := by decide +kernel
theorem dL_isAsked_17 : decode cL_isAsked 17 = .ok (.aload_n 0, 1) := by decide +kernel
theorem dL_isAsked_18 : decode cL_isAsked 18 = .ok (.iload_n 2, 1) := by decide +kernel
theorem dL_isAsked_19 : decode cL_isAsked 19 = .ok (.bipush 6, 2) := by decide +kernel
theorem dL_isAsked_21 : decode cL_isAsked 21 = .ok (.invokevirtual 49, 3) := by decide +kernel
theorem dL_isAsked_24 : decode cL_isAsked 24 = .ok (.ifCond .ne 13, 3) := by decide +kernel
theorem dL_isAsked_27 : decode cL_isAsked 27 = .ok (.aload_n 0, 1) := by decide +kernel
theorem dL_isAsked_28 : decode cL_isAsked 28 = .ok (.iload_n 2, 1) := by decide +kernel
theorem dL_isAsked_29 : decode cL_isAsked 29 = .ok (.bipush 7, 2) := by decide +kernel
theorem dL_isAsked_31 : decode cL_isAsked 31 = .ok (.invokevirtual 49, 3) := by decide +kernel
theorem dL_isAsked_34 : decode cL_isAsked 34 = .ok (.goto 10, 3) := by decide +kernel
theorem dL_isAsked_37 : decode cL_isAsked 37 = .ok (.aload_n 1, 1) := by decide +kernel
theorem dL_isAsked_38 : decode cL_isAsked 38 = .ok (.iload_n 3, 1) := by decide +kernel
theorem dL_isAsked_39 : decode cL_isAsked 39 = .ok (.iconst 5, 1) := by decide +kernel
theorem dL_isAsked_40 : decode cL_isAsked 40 = .ok (.invokestatic 22, 3) := by decide +kernel
theorem dL_isAsked_43 : decode cL_isAsked 43 = .ok (.iaload, 1) := by decide +kernel
theorem dL_isAsked_44 : decode cL_isAsked 44 = .ok (.istore 5, 2) := by decide +kernel
theorem dL_isAsked_46 : decode cL_isAsked 46 = .ok (.aload_n 1, 1) := by decide +kernel
theorem dL_isAsked_47 : decode cL_isAsked 47 = .ok (.iload 4, 2) := by decide +kernel
theorem dL_isAsked_49 : decode cL_isAsked 49 = .ok (.iconst 5, 1) := by decide +kernel
theorem dL_isAsked_50 : decode cL_isAsked 50 = .ok (.invokestatic 22, 3) := by decide +kernel
theorem dL_isAsked_53 : decode cL_isAsked 53 = .ok (.iaload, 1) := by decide +kernel
theorem dL_isAsked_54 : decode cL_isAsked 54 = .ok (.istore 6, 2) := by decide +kernel
theorem dL_isAsked_56 : decode cL_isAsked 56 = .ok (.iload 5, 2) := by decide +kernel
theorem dL_isAsked_58 : decode cL_isAsked 58 = .ok (.iload 6, 2) := by decide +kernel
theorem dL_isAsked_60 : decode cL_isAsked 60 = .ok (.if_icmp .ne 5, 3) := by decide +kernel
theorem dL_isAsked_63 : decode cL_isAsked 63 = .ok (.iconst 1, 1) := by decide +kernel
theorem dL_isAsked_64 : decode cL_isAsked 64 = .ok (.ireturn, 1) := by decide +kernel
theorem dL_isAsked_65 : decode cL_isAsked 65 = .ok (.iconst 0, 1) := by decide +kernel
theorem dL_isAsked_66 : decode cL_isAsked 66 = .ok (.istore 7, 2) := by decide +kernel
theorem dL_isAsked_68 : decode cL_isAsked 68 = .ok (.iload 5, 2) := by decide +kernel
theorem dL_isAsked_70 : decode cL_isAsked 70 = .ok (.istore 8, 2) := by decide +kernel
theorem dL_isAsked_72 : decode cL_isAsked 72 = .ok (.aload_n 0, 1) := by decide +kernel
theorem dL_isAsked_73 : decode cL_isAsked 73 = .ok (.iload 8, 2) := by decide +kernel
theorem dL_isAsked_75 : decode cL_isAsked 75 = .ok (.invokevirtual 87, 3) := by decide +kernel
theorem dL_isAsked_78 : decode cL_isAsked 78 = .ok (.iinc 7 1, 3) := by decide +kernel
theorem dL_isAsked_81 : decode cL_isAsked 81 = .ok (.iload 7, 2) := by decide +kernel
theorem dL_isAsked_83 : decode cL_isAsked 83 = .ok (.if_icmp .eq 5, 3) := by decide +kernel
theorem dL_isAsked_86 : decode cL_isAsked 86 = .ok (.iconst 0, 1) := by decide +kernel
theorem dL_isAsked_87 : decode cL_isAsked 87 = .ok (.ireturn, 1) := by decide +kernel
theorem dL_isAsked_88 : decode cL_isAsked 88 = .ok (.iload 8, 2) := by decide +kernel
theorem dL_isAsked_90 : decode cL_isAsked 90 = .ok (.iload 6, 2) := by decide +kernel
theorem dL_isAsked_92 : decode cL_isAsked 92 = .ok (.if_icmp .ne 6, 3) := by decide +kernel
theorem dL_isAsked_95 : decode cL_isAsked 95 = .ok (.goto 50, 3) := by decide +kernel
theorem dL_isAsked_98 : decode cL_isAsked 98 = .ok (.iload 8, 2) := by decide +kernel
theorem dL_isAsked_100 : decode cL_isAsked 100 = .ok (.iload 8, 2) := by decide +kernel
theorem dL_isAsked_102 : decode cL_isAsked 102 = .ok (.iconst 5, 1) := by decide +kernel
theorem dL_isAsked_103 : decode cL_isAsked 103 = .ok (.idiv, 1) := by decide +kernel
theorem dL_isAsked_104 : decode cL_isAsked 104 = .ok (.iload 6, 2) := by decide +kernel
theorem dL_isAsked_106 : decode cL_isAsked 106 = .ok (.iconst 5, 1) := by decide +kernel
theorem dL_isAsked_107 : decode cL_isAsked 107 = .ok (.idiv, 1) := by decide +kernel
theorem dL_isAsked_108 : decode cL_isAsked 108 = .ok (.if_icmp .eq 19, 3) := by decide +kernel
theorem dL_isAsked_111 : decode cL_isAsked 111 = .ok (.iload 8, 2) := by decide +kernel
theorem dL_isAsked_113 : decode cL_isAsked 113 = .ok (.iload 6, 2) := by decide +kernel
theorem dL_isAsked_115 : decode cL_isAsked 115 = .ok (.if_icmp .ge 7, 3) := by decide +kernel
theorem dL_isAsked_118 : decode cL_isAsked 118 = .ok (.iconst 5, 1) := by decide +kernel
theorem dL_isAsked_119 : decode cL_isAsked 119 = .ok (.goto 20, 3) := by decide +kernel
theorem dL_isAsked_122 : decode cL_isAsked 122 = .ok (.bipush (-5), 2) := by decide +kernel
theorem dL_isAsked_124 : decode cL_isAsked 124 = .ok (.goto 15, 3) := by decide +kernel
theorem dL_isAsked_127 : decode cL_isAsked 127 = .ok (.iload 8, 2) := by decide +kernel
theorem dL_isAsked_129 : decode cL_isAsked 129 = .ok (.iload 6, 2) := by decide +kernel
theorem dL_isAsked_131 : decode cL_isAsked 131 = .ok (.if_icmp .ge 7, 3) := by decide +kernel
theorem dL_isAsked_134 : decode cL_isAsked 134 = .ok (.iconst 1, 1) := by decide +kernel
theorem dL_isAsked_135 : decode cL_isAsked 135 = .ok (.goto 4, 3) := by decide +kernel
theorem dL_isAsked_138 : decode cL_isAsked 138 = .ok (.iconst (-1), 1) := by decide +kernel
theorem dL_isAsked_139 : decode cL_isAsked 139 = .ok (.iadd, 1) := by decide +kernel
theorem dL_isAsked_140 : decode cL_isAsked 140 = .ok (.istore 8, 2) := by decide +kernel
theorem dL_isAsked_142 : decode cL_isAsked 142 = .ok (.goto (-70), 3) := by decide +kernel
theorem dL_isAsked_145 : decode cL_isAsked 145 = .ok (.aload_n 0, 1) := by decide +kernel
theorem dL_isAsked_146 : decode cL_isAsked 146 = .ok (.iconst 0, 1) := by decide +kernel
theorem dL_isAsked_147 : decode cL_isAsked 147 = .ok (.invokevirtual 36, 3) := by decide +kernel
theorem dL_isAsked_150 : decode cL_isAsked 150 = .ok (.iconst 1, 1) := by decide +kernel
theorem dL_isAsked_151 : decode cL_isAsked 151 = .ok (.iadd, 1) := by decide +kernel
theorem dL_isAsked_152 : decode cL_isAsked 152 = .ok (.iload 4, 2) := by decide +kernel
theorem dL_isAsked_154 : decode cL_isAsked 154 = .ok (.iconst 2, 1) := by decide +kernel
theorem dL_isAsked_155 : decode cL_isAsked 155 = .ok (.ishr, 1) := by decide +kernel
theorem dL_isAsked_156 : decode cL_isAsked 156 = .ok (.bipush 20, 2) := by decide +kernel
theorem dL_isAsked_158 : decode cL_isAsked 158 = .ok (.invokestatic 22, 3) := by decide +kernel
theorem dL_isAsked_161 : decode cL_isAsked 161 = .ok (.iadd, 1) := by decide +kernel
theorem dL_isAsked_162 : decode cL_isAsked 162 = .ok (.istore 8, 2) := by decide +kernel
theorem dL_isAsked_164 : decode cL_isAsked 164 = .ok (.aload_n 0, 1) := by decide +kernel
theorem dL_isAsked_165 : decode cL_isAsked 165 = .ok (.iload_n 2, 1) := by decide +kernel
theorem dL_isAsked_166 : decode cL_isAsked 166 = .ok (.iload 8, 2) := by decide +kernel
theorem dL_isAsked_168 : decode cL_isAsked 168 = .ok (.invokevirtual 90, 3) := by decide +kernel
theorem dL_isAsked_171 : decode cL_isAsked 171 = .ok (.istore 9, 2) := by decide +kernel
theorem dL_isAsked_173 : decode cL_isAsked 173 = .ok (.aload_n 0, 1) := by decide +kernel
theorem dL_isAsked_174 : decode cL_isAsked 174 = .ok (.iload_n 2, 1) := by decide +kernel
theorem dL_isAsked_175 : decode cL_isAsked 175 = .ok (.invokevirtual 93, 3) := by decide +kernel
theorem dL_isAsked_178 : decode cL_isAsked 178 = .ok (.istore 10, 2) := by decide +kernel
theorem dL_isAsked_180 : decode cL_isAsked 180 = .ok (.iload 9, 2) := by decide +kernel
theorem dL_isAsked_182 : decode cL_isAsked 182 = .ok (.ifCond .ne 15, 3) := by decide +kernel
theorem dL_isAsked_185 : decode cL_isAsked 185 = .ok (.iload 10, 2) := by decide +kernel
theorem dL_isAsked_187 : decode cL_isAsked 187 = .ok (.ifCond .lt 49, 3) := by decide +kernel
theorem dL_isAsked_190 : decode cL_isAsked 190 = .ok (.iload 10, 2) := by decide +kernel
theorem dL_isAsked_192 : decode cL_isAsked 192 = .ok (.iload 8, 2) := by decide +kernel
theorem dL_isAsked_194 : decode cL_isAsked 194 = .ok (.if_icmp .gt 42, 3) := by decide +kernel
theorem dL_isAsked_197 : decode cL_isAsked 197 = .ok (.iload 10, 2) := by decide +kernel
theorem dL_isAsked_199 : decode cL_isAsked 199 = .ok (.ifCond .le 39, 3) := by decide +kernel
theorem dL_isAsked_202 : decode cL_isAsked 202 = .ok (.aload_n 0, 1) := by decide +kernel
theorem dL_isAsked_203 : decode cL_isAsked 203 = .ok (.iload_n 2, 1) := by decide +kernel
theorem dL_isAsked_204 : decode cL_isAsked 204 = .ok (.iload 10, 2) := by decide +kernel
theorem dL_isAsked_206 : decode cL_isAsked 206 = .ok (.invokevirtual 90, 3) := by decide +kernel
theorem dL_isAsked_209 : decode cL_isAsked 209 = .ok (.ifCond .ne 27, 3) := by decide +kernel
theorem dL_isAsked_212 : decode cL_isAsked 212 = .ok (.iload 10, 2) := by decide +kernel
theorem dL_isAsked_214 : decode cL_isAsked 214 = .ok (.aload_n 0, 1) := by decide +kernel
theorem dL_isAsked_215 : decode cL_isAsked 215 = .ok (.iconst 0, 1) := by decide +kernel
theorem dL_isAsked_216 : decode cL_isAsked 216 = .ok (.invokevirtual 36, 3) := by decide +kernel
theorem dL_isAsked_219 : decode cL_isAsked 219 = .ok (.iconst 1, 1) := by decide +kernel
theorem dL_isAsked_220 : decode cL_isAsked 220 = .ok (.iadd, 1) := by decide +kernel
theorem dL_isAsked_221 : decode cL_isAsked 221 = .ok (.if_icmp .le 17, 3) := by decide +kernel
theorem dL_isAsked_224 : decode cL_isAsked 224 = .ok (.aload_n 0, 1) := by decide +kernel
theorem dL_isAsked_225 : decode cL_isAsked 225 = .ok (.iload_n 2, 1) := by decide +kernel
theorem dL_isAsked_226 : decode cL_isAsked 226 = .ok (.iload 10, 2) := by decide +kernel
theorem dL_isAsked_228 : decode cL_isAsked 228 = .ok (.iconst 1, 1) := by decide +kernel
theorem dL_isAsked_229 : decode cL_isAsked 229 = .ok (.isub, 1) := by decide +kernel
theorem dL_isAsked_230 : decode cL_isAsked 230 = .ok (.invokevirtual 90, 3) := by decide +kernel
theorem dL_isAsked_233 : decode cL_isAsked 233 = .ok (.ifCond .ne 5, 3) := by decide +kernel
theorem dL_isAsked_236 : decode cL_isAsked 236 = .ok (.iconst 0, 1) := by decide +kernel
theorem dL_isAsked_237 : decode cL_isAsked 237 = .ok (.ireturn, 1) := by decide +kernel
theorem dL_isAsked_238 : decode cL_isAsked 238 = .ok (.aload_n 0, 1) := by decide +kernel
theorem dL_isAsked_239 : decode cL_isAsked 239 = .ok (.iconst 4, 1) := by decide +kernel
theorem dL_isAsked_240 : decode cL_isAsked 240 = .ok (.invokevirtual 36, 3) := by decide +kernel
theorem dL_isAsked_243 : decode cL_isAsked 243 = .ok (.istore 11, 2) := by decide +kernel
theorem dL_isAsked_245 : decode cL_isAsked 245 = .ok (.iload 11, 2) := by decide +kernel
theorem dL_isAsked_247 : decode cL_isAsked 247 = .ok (.bipush 12, 2) := by decide +kernel
theorem dL_isAsked_249 : decode cL_isAsked 249 = .ok (.if_icmp .ne 5, 3) := by decide +kernel
theorem dL_isAsked_252 : decode cL_isAsked 252 = .ok (.iconst 1, 1) := by decide +kernel
theorem dL_isAsked_253 : decode cL_isAsked 253 = .ok (.ireturn, 1) := by decide +kernel
theorem dL_isAsked_254 : decode cL_isAsked 254 = .ok (.aload_n 0, 1) := by decide +kernel
theorem dL_isAsked_255 : decode cL_isAsked 255 = .ok (.iload_n 2, 1) := by decide +kernel
theorem dL_isAsked_256 : decode cL_isAsked 256 = .ok (.iload 8, 2) := by decide +kernel
theorem dL_isAsked_258 : decode cL_isAsked 258 = .ok (.invokevirtual 96, 3) := by decide +kernel
theorem dL_isAsked_261 : decode cL_isAsked 261 = .ok (.istore 12, 2) := by decide +kernel
theorem dL_isAsked_263 : decode cL_isAsked 263 = .ok (.iload 9, 2) := by decide +kernel
theorem dL_isAsked_265 : decode cL_isAsked 265 = .ok (.ifCond .le 38, 3) := by decide +kernel
theorem dL_isAsked_268 : decode cL_isAsked 268 = .ok (.iload 12, 2) := by decide +kernel
theorem dL_isAsked_270 : decode cL_isAsked 270 = .ok (.iconst (-1), 1) := by decide +kernel
theorem dL_isAsked_271 : decode cL_isAsked 271 = .ok (.iload 9, 2) := by decide +kernel
theorem dL_isAsked_273 : decode cL_isAsked 273 = .ok (.isub, 1) := by decide +kernel
theorem dL_isAsked_274 : decode cL_isAsked 274 = .ok (.if_icmp .ne 27, 3) := by decide +kernel
theorem dL_isAsked_277 : decode cL_isAsked 277 = .ok (.aload_n 0, 1) := by decide +kernel
theorem dL_isAsked_278 : decode cL_isAsked 278 = .ok (.iconst 4, 1) := by decide +kernel
theorem dL_isAsked_279 : decode cL_isAsked 279 = .ok (.invokevirtual 36, 3) := by decide +kernel
theorem dL_isAsked_282 : decode cL_isAsked 282 = .ok (.iload 11, 2) := by decide +kernel
theorem dL_isAsked_284 : decode cL_isAsked 284 = .ok (.if_icmp .ne 17, 3) := by decide +kernel
theorem dL_isAsked_287 : decode cL_isAsked 287 = .ok (.aload_n 0, 1) := by decide +kernel
theorem dL_isAsked_288 : decode cL_isAsked 288 = .ok (.iconst 5, 1) := by decide +kernel
theorem dL_isAsked_289 : decode cL_isAsked 289 = .ok (.invokevirtual 36, 3) := by decide +kernel
theorem dL_isAsked_292 : decode cL_isAsked 292 = .ok (.iload 7, 2) := by decide +kernel
theorem dL_isAsked_294 : decode cL_isAsked 294 = .ok (.if_icmp .ne 7, 3) := by decide +kernel
theorem dL_isAsked_297 : decode cL_isAsked 297 = .ok (.iconst 1, 1) := by decide +kernel
theorem dL_isAsked_298 : decode cL_isAsked 298 = .ok (.goto 4, 3) := by decide +kernel
theorem dL_isAsked_301 : decode cL_isAsked 301 = .ok (.iconst 0, 1) := by decide +kernel
theorem dL_isAsked_302 : decode cL_isAsked 302 = .ok (.ireturn, 1) := by decide +kernel
theorem dL_isAsked_303 : decode cL_isAsked 303 = .ok (.iload 12, 2) := by decide +kernel
theorem dL_isAsked_305 : decode cL_isAsked 305 = .ok (.iload 11, 2) := by decide +kernel
theorem dL_isAsked_307 : decode cL_isAsked 307 = .ok (.if_icmp .ne 77, 3) := by decide +kernel
theorem dL_isAsked_310 : decode cL_isAsked 310 = .ok (.aload_n 0, 1) := by decide +kernel
theorem dL_isAsked_311 : decode cL_isAsked 311 = .ok (.iload 12, 2) := by decide +kernel
theorem dL_isAsked_313 : decode cL_isAsked 313 = .ok (.iconst 0, 1) := by decide +kernel
theorem dL_isAsked_314 : decode cL_isAsked 314 = .ok (.invokevirtual 62, 3) := by decide +kernel
theorem dL_isAsked_317 : decode cL_isAsked 317 = .ok (.ifCond .ne 67, 3) := by decide +kernel
theorem dL_isAsked_320 : decode cL_isAsked 320 = .ok (.aload_n 0, 1) := by decide +kernel
theorem dL_isAsked_321 : decode cL_isAsked 321 = .ok (.iload 12, 2) := by decide +kernel
theorem dL_isAsked_323 : decode cL_isAsked 323 = .ok (.iconst 2, 1) := by decide +kernel
theorem dL_isAsked_324 : decode cL_isAsked 324 = .ok (.invokevirtual 62, 3) := by decide +kernel
theorem dL_isAsked_327 : decode cL_isAsked 327 = .ok (.iload 8, 2) := by decide +kernel
theorem dL_isAsked_329 : decode cL_isAsked 329 = .ok (.if_icmp .ne 55, 3) := by decide +kernel
theorem dL_isAsked_332 : decode cL_isAsked 332 = .ok (.aload_n 0, 1) := by decide +kernel
theorem dL_isAsked_333 : decode cL_isAsked 333 = .ok (.iload 12, 2) := by decide +kernel
theorem dL_isAsked_335 : decode cL_isAsked 335 = .ok (.iconst 3, 1) := by decide +kernel
theorem dL_isAsked_336 : decode cL_isAsked 336 = .ok (.invokevirtual 62, 3) := by decide +kernel
theorem dL_isAsked_339 : decode cL_isAsked 339 = .ok (.iload 8, 2) := by decide +kernel
theorem dL_isAsked_341 : decode cL_isAsked 341 = .ok (.iconst 2, 1) := by decide +kernel
theorem dL_isAsked_342 : decode cL_isAsked 342 = .ok (.iload 7, 2) := by decide +kernel
theorem dL_isAsked_344 : decode cL_isAsked 344 = .ok (.iconst 1, 1) := by decide +kernel
theorem dL_isAsked_345 : decode cL_isAsked 345 = .ok (.isub, 1) := by decide +kernel
theorem dL_isAsked_346 : decode cL_isAsked 346 = .ok (.imul, 1) := by decide +kernel
theorem dL_isAsked_347 : decode cL_isAsked 347 = .ok (.iadd, 1) := by decide +kernel
theorem dL_isAsked_348 : decode cL_isAsked 348 = .ok (.if_icmp .ne 36, 3) := by decide +kernel
theorem dL_isAsked_351 : decode cL_isAsked 351 = .ok (.aload_n 0, 1) := by decide +kernel
theorem dL_isAsked_352 : decode cL_isAsked 352 = .ok (.iload 12, 2) := by decide +kernel
theorem dL_isAsked_354 : decode cL_isAsked 354 = .ok (.iconst 4, 1) := by decide +kernel
theorem dL_isAsked_355 : decode cL_isAsked 355 = .ok (.invokevirtual 62, 3) := by decide +kernel
theorem dL_isAsked_358 : decode cL_isAsked 358 = .ok (.iload 7, 2) := by decide +kernel
theorem dL_isAsked_360 : decode cL_isAsked 360 = .ok (.if_icmp .ne 24, 3) := by decide +kernel
theorem dL_isAsked_363 : decode cL_isAsked 363 = .ok (.aload_n 0, 1) := by decide +kernel
theorem dL_isAsked_364 : decode cL_isAsked 364 = .ok (.iconst 5, 1) := by decide +kernel
theorem dL_isAsked_365 : decode cL_isAsked 365 = .ok (.invokevirtual 36, 3) := by decide +kernel
theorem dL_isAsked_368 : decode cL_isAsked 368 = .ok (.ifCond .ne 16, 3) := by decide +kernel
theorem dL_isAsked_371 : decode cL_isAsked 371 = .ok (.aload_n 0, 1) := by decide +kernel
theorem dL_isAsked_372 : decode cL_isAsked 372 = .ok (.iload 5, 2) := by decide +kernel
theorem dL_isAsked_374 : decode cL_isAsked 374 = .ok (.iload 8, 2) := by decide +kernel
theorem dL_isAsked_376 : decode cL_isAsked 376 = .ok (.invokevirtual 99, 3) := by decide +kernel
theorem dL_isAsked_379 : decode cL_isAsked 379 = .ok (.iload 12, 2) := by decide +kernel
theorem dL_isAsked_381 : decode cL_isAsked 381 = .ok (.if_icmp .eq 5, 3) := by decide +kernel
theorem dL_isAsked_384 : decode cL_isAsked 384 = .ok (.iconst 0, 1) := by decide +kernel
theorem dL_isAsked_385 : decode cL_isAsked 385 = .ok (.ireturn, 1) := by decide +kernel
theorem dL_isAsked_386 : decode cL_isAsked 386 = .ok (.iconst 0, 1) := by decide +kernel
theorem dL_isAsked_387 : decode cL_isAsked 387 = .ok (.istore 13, 2) := by decide +kernel
theorem dL_isAsked_389 : decode cL_isAsked 389 = .ok (.iload 13, 2) := by decide +kernel
theorem dL_isAsked_391 : decode cL_isAsked 391 = .ok (.bipush 25, 2) := by decide +kernel
theorem dL_isAsked_393 : decode cL_isAsked 393 = .ok (.if_icmp .ge 54, 3) := by decide +kernel
theorem dL_isAsked_396 : decode cL_isAsked 396 = .ok (.iload 8, 2) := by decide +kernel
theorem dL_isAsked_398 : decode cL_isAsked 398 = .ok (.sipush 1440, 3) := by decide +kernel
theorem dL_isAsked_401 : decode cL_isAsked 401 = .ok (.idiv, 1) := by decide +kernel
theorem dL_isAsked_402 : decode cL_isAsked 402 = .ok (.aload_n 0, 1) := by decide +kernel
theorem dL_isAsked_403 : decode cL_isAsked 403 = .ok (.iconst 0, 1) := by decide +kernel
theorem dL_isAsked_404 : decode cL_isAsked 404 = .ok (.invokevirtual 36, 3) := by decide +kernel
theorem dL_isAsked_407 : decode cL_isAsked 407 = .ok (.sipush 1440, 3) := by decide +kernel
theorem dL_isAsked_410 : decode cL_isAsked 410 = .ok (.idiv, 1) := by decide +kernel
theorem dL_isAsked_411 : decode cL_isAsked 411 = .ok (.if_icmp .ne 30, 3) := by decide +kernel
theorem dL_isAsked_414 : decode cL_isAsked 414 = .ok (.aload_n 0, 1) := by decide +kernel
theorem dL_isAsked_415 : decode cL_isAsked 415 = .ok (.iload 13, 2) := by decide +kernel
theorem dL_isAsked_417 : decode cL_isAsked 417 = .ok (.iload 8, 2) := by decide +kernel
theorem dL_isAsked_419 : decode cL_isAsked 419 = .ok (.invokevirtual 99, 3) := by decide +kernel
theorem dL_isAsked_422 : decode cL_isAsked 422 = .ok (.iload 12, 2) := by decide +kernel
theorem dL_isAsked_424 : decode cL_isAsked 424 = .ok (.if_icmp .ne 17, 3) := by decide +kernel
theorem dL_isAsked_427 : decode cL_isAsked 427 = .ok (.aload_n 0, 1) := by decide +kernel
theorem dL_isAsked_428 : decode cL_isAsked 428 = .ok (.iload 13, 2) := by decide +kernel
theorem dL_isAsked_430 : decode cL_isAsked 430 = .ok (.iconst 4, 1) := by decide +kernel
