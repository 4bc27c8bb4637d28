theorem dX9_keep_81 : decode cX9_keep 81 = .ok (.iaload, 1) := by decide +kernel
theorem dX9_keep_82 : decode cX9_keep 82 = .ok (.iastore, 1) := by decide +kernel
theorem dX9_keep_83 : decode cX9_keep 83 = .ok (.iconst 0, 1) := by decide +kernel
theorem dX9_keep_84 : decode cX9_keep 84 = .ok (.istore_n 2, 1) := by decide +kernel
theorem dX9_keep_85 : decode cX9_keep 85 = .ok (.iload_n 2, 1) := by decide +kernel
theorem dX9_keep_86 : decode cX9_keep 86 = .ok (.iconst 5, 1) := by decide +kernel
theorem dX9_keep_87 : decode cX9_keep 87 = .ok (.if_icmp .ge 28, 3) := by decide +kernel
theorem dX9_keep_90 : decode cX9_keep 90 = .ok (.aload_n 0, 1) := by decide +kernel
theorem dX9_keep_91 : decode cX9_keep 91 = .ok (.getfield 7, 3) := by decide +kernel
theorem dX9_keep_94 : decode cX9_keep 94 = .ok (.iload_n 1, 1) := by decide +kernel
theorem dX9_keep_95 : decode cX9_keep 95 = .ok (.iconst 1, 1) := by decide +kernel
theorem dX9_keep_96 : decode cX9_keep 96 = .ok (.iadd, 1) := by decide +kernel
theorem dX9_keep_97 : decode cX9_keep 97 = .ok (.iload_n 2, 1) := by decide +kernel
theorem dX9_keep_98 : decode cX9_keep 98 = .ok (.iadd, 1) := by decide +kernel
theorem dX9_keep_99 : decode cX9_keep 99 = .ok (.aload_n 0, 1) := by decide +kernel
theorem dX9_keep_100 : decode cX9_keep 100 = .ok (.getfield 7, 3) := by decide +kernel
theorem dX9_keep_103 : decode cX9_keep 103 = .ok (.bipush 8, 2) := by decide +kernel
theorem dX9_keep_105 : decode cX9_keep 105 = .ok (.iload_n 2, 1) := by decide +kernel
theorem dX9_keep_106 : decode cX9_keep 106 = .ok (.iadd, 1) := by decide +kernel
theorem dX9_keep_107 : decode cX9_keep 107 = .ok (.iaload, 1) := by decide +kernel
theorem dX9_keep_108 : decode cX9_keep 108 = .ok (.iastore, 1) := by decide +kernel
theorem dX9_keep_109 : decode cX9_keep 109 = .ok (.iinc 2 1, 3) := by decide +kernel
theorem dX9_keep_112 : decode cX9_keep 112 = .ok (.goto (-27), 3) := by decide +kernel
theorem dX9_keep_115 : decode cX9_keep 115 = .ok (.iconst 0, 1) := by decide +kernel
theorem dX9_keep_116 : decode cX9_keep 116 = .ok (.istore_n 2, 1) := by decide +kernel
theorem dX9_keep_117 : decode cX9_keep 117 = .ok (.iload_n 2, 1) := by decide +kernel
theorem dX9_keep_118 : decode cX9_keep 118 = .ok (.iconst 5, 1) := by decide +kernel
theorem dX9_keep_119 : decode cX9_keep 119 = .ok (.if_icmp .ge 43, 3) := by decide +kernel
theorem dX9_keep_122 : decode cX9_keep 122 = .ok (.iconst 0, 1) := by decide +kernel
theorem dX9_keep_123 : decode cX9_keep 123 = .ok (.istore_n 3, 1) := by decide +kernel
theorem dX9_keep_124 : decode cX9_keep 124 = .ok (.iload_n 3, 1) := by decide +kernel
theorem dX9_keep_125 : decode cX9_keep 125 = .ok (.iconst 3, 1) := by decide +kernel
theorem dX9_keep_126 : decode cX9_keep 126 = .ok (.if_icmp .ge 30, 3) := by decide +kernel
theorem dX9_keep_129 : decode cX9_keep 129 = .ok (.aload_n 0, 1) := by decide +kernel
theorem dX9_keep_130 : decode cX9_keep 130 = .ok (.getfield 7, 3) := by decide +kernel
theorem dX9_keep_133 : decode cX9_keep 133 = .ok (.iload_n 1, 1) := by decide +kernel
theorem dX9_keep_134 : decode cX9_keep 134 = .ok (.bipush 6, 2) := by decide +kernel
theorem dX9_keep_136 : decode cX9_keep 136 = .ok (.iadd, 1) := by decide +kernel
theorem dX9_keep_137 : decode cX9_keep 137 = .ok (.iconst 3, 1) := by decide +kernel
theorem dX9_keep_138 : decode cX9_keep 138 = .ok (.iload_n 2, 1) := by decide +kernel
theorem dX9_keep_139 : decode cX9_keep 139 = .ok (.imul, 1) := by decide +kernel
theorem dX9_keep_140 : decode cX9_keep 140 = .ok (.iadd, 1) := by decide +kernel
theorem dX9_keep_141 : decode cX9_keep 141 = .ok (.iload_n 3, 1) := by decide +kernel
theorem dX9_keep_142 : decode cX9_keep 142 = .ok (.iadd, 1) := by decide +kernel
theorem dX9_keep_143 : decode cX9_keep 143 = .ok (.aload_n 0, 1) := by decide +kernel
theorem dX9_keep_144 : decode cX9_keep 144 = .ok (.iload_n 2, 1) := by decide +kernel
theorem dX9_keep_145 : decode cX9_keep 145 = .ok (.iload_n 3, 1) := by decide +kernel
theorem dX9_keep_146 : decode cX9_keep 146 = .ok (.invokevirtual 87, 3) := by decide +kernel
theorem dX9_keep_149 : decode cX9_keep 149 = .ok (.iastore, 1) := by decide +kernel
theorem dX9_keep_150 : decode cX9_keep 150 = .ok (.iinc 3 1, 3) := by decide +kernel
theorem dX9_keep_153 : decode cX9_keep 153 = .ok (.goto (-29), 3) := by decide +kernel
theorem dX9_keep_156 : decode cX9_keep 156 = .ok (.iinc 2 1, 3) := by decide +kernel
theorem dX9_keep_159 : decode cX9_keep 159 = .ok (.goto (-42), 3) := by decide +kernel
theorem dX9_keep_162 : decode cX9_keep 162 = .ok (.iconst 0, 1) := by decide +kernel
theorem dX9_keep_163 : decode cX9_keep 163 = .ok (.istore_n 2, 1) := by decide +kernel
theorem dX9_keep_164 : decode cX9_keep 164 = .ok (.iload_n 2, 1) := by decide +kernel
theorem dX9_keep_165 : decode cX9_keep 165 = .ok (.bipush 72, 2) := by decide +kernel
theorem dX9_keep_167 : decode cX9_keep 167 = .ok (.if_icmp .ge 29, 3) := by decide +kernel
theorem dX9_keep_170 : decode cX9_keep 170 = .ok (.aload_n 0, 1) := by decide +kernel
theorem dX9_keep_171 : decode cX9_keep 171 = .ok (.getfield 7, 3) := by decide +kernel
theorem dX9_keep_174 : decode cX9_keep 174 = .ok (.iload_n 1, 1) := by decide +kernel
theorem dX9_keep_175 : decode cX9_keep 175 = .ok (.bipush 21, 2) := by decide +kernel
theorem dX9_keep_177 : decode cX9_keep 177 = .ok (.iadd, 1) := by decide +kernel
theorem dX9_keep_178 : decode cX9_keep 178 = .ok (.iload_n 2, 1) := by decide +kernel
theorem dX9_keep_179 : decode cX9_keep 179 = .ok (.iadd, 1) := by decide +kernel
theorem dX9_keep_180 : decode cX9_keep 180 = .ok (.aload_n 0, 1) := by decide +kernel
theorem dX9_keep_181 : decode cX9_keep 181 = .ok (.getfield 7, 3) := by decide +kernel
theorem dX9_keep_184 : decode cX9_keep 184 = .ok (.bipush 38, 2) := by decide +kernel
theorem dX9_keep_186 : decode cX9_keep 186 = .ok (.iload_n 2, 1) := by decide +kernel
theorem dX9_keep_187 : decode cX9_keep 187 = .ok (.iadd, 1) := by decide +kernel
theorem dX9_keep_188 : decode cX9_keep 188 = .ok (.iaload, 1) := by decide +kernel
theorem dX9_keep_189 : decode cX9_keep 189 = .ok (.iastore, 1) := by decide +kernel
theorem dX9_keep_190 : decode cX9_keep 190 = .ok (.iinc 2 1, 3) := by decide +kernel
theorem dX9_keep_193 : decode cX9_keep 193 = .ok (.goto (-29), 3) := by decide +kernel
theorem dX9_keep_196 : decode cX9_keep 196 = .ok (.iconst 0, 1) := by decide +kernel
theorem dX9_keep_197 : decode cX9_keep 197 = .ok (.istore_n 2, 1) := by decide +kernel
theorem dX9_keep_198 : decode cX9_keep 198 = .ok (.iload_n 2, 1) := by decide +kernel
theorem dX9_keep_199 : decode cX9_keep 199 = .ok (.bipush 60, 2) := by decide +kernel
theorem dX9_keep_201 : decode cX9_keep 201 = .ok (.if_icmp .ge 30, 3) := by decide +kernel
theorem dX9_keep_204 : decode cX9_keep 204 = .ok (.aload_n 0, 1) := by decide +kernel
theorem dX9_keep_205 : decode cX9_keep 205 = .ok (.getfield 7, 3) := by decide +kernel
theorem dX9_keep_208 : decode cX9_keep 208 = .ok (.iload_n 1, 1) := by decide +kernel
theorem dX9_keep_209 : decode cX9_keep 209 = .ok (.bipush 93, 2) := by decide +kernel
theorem dX9_keep_211 : decode cX9_keep 211 = .ok (.iadd, 1) := by decide +kernel
theorem dX9_keep_212 : decode cX9_keep 212 = .ok (.iload_n 2, 1) := by decide +kernel
theorem dX9_keep_213 : decode cX9_keep 213 = .ok (.iadd, 1) := by decide +kernel
theorem dX9_keep_214 : decode cX9_keep 214 = .ok (.aload_n 0, 1) := by decide +kernel
theorem dX9_keep_215 : decode cX9_keep 215 = .ok (.getfield 7, 3) := by decide +kernel
theorem dX9_keep_218 : decode cX9_keep 218 = .ok (.sipush 4810, 3) := by decide +kernel
theorem dX9_keep_221 : decode cX9_keep 221 = .ok (.iload_n 2, 1) := by decide +kernel
theorem dX9_keep_222 : decode cX9_keep 222 = .ok (.iadd, 1) := by decide +kernel
theorem dX9_keep_223 : decode cX9_keep 223 = .ok (.iaload, 1) := by decide +kernel
theorem dX9_keep_224 : decode cX9_keep 224 = .ok (.iastore, 1) := by decide +kernel
theorem dX9_keep_225 : decode cX9_keep 225 = .ok (.iinc 2 1, 3) := by decide +kernel
theorem dX9_keep_228 : decode cX9_keep 228 = .ok (.goto (-30), 3) := by decide +kernel
theorem dX9_keep_231 : decode cX9_keep 231 = .ok (.aload_n 0, 1) := by decide +kernel
theorem dX9_keep_232 : decode cX9_keep 232 = .ok (.getfield 7, 3) := by decide +kernel
theorem dX9_keep_235 : decode cX9_keep 235 = .ok (.iconst 4, 1) := by decide +kernel
theorem dX9_keep_236 : decode cX9_keep 236 = .ok (.dup2, 1) := by decide +kernel
theorem dX9_keep_237 : decode cX9_keep 237 = .ok (.iaload, 1) := by decide +kernel
theorem dX9_keep_238 : decode cX9_keep 238 = .ok (.iconst 1, 1) := by decide +kernel
theorem dX9_keep_239 : decode cX9_keep 239 = .ok (.iadd, 1) := by decide +kernel
theorem dX9_keep_240 : decode cX9_keep 240 = .ok (.iastore, 1) := by decide +kernel
theorem dX9_keep_241 : decode cX9_keep 241 = .ok (.return_, 1) := by decide +kernel
theorem dX9_undo_0 : decode cX9_undo 0 = .ok (.aload_n 0, 1) := by decide +kernel
theorem dX9_undo_1 : decode cX9_undo 1 = .ok (.getfield 7, 3) := by decide +kernel
theorem dX9_undo_4 : decode cX9_undo 4 = .ok (.iconst 4, 1) := by decide +kernel
theorem dX9_undo_5 : decode cX9_undo 5 = .ok (.iaload, 1) := by decide +kernel
theorem dX9_undo_6 : decode cX9_undo 6 = .ok (.ifCond .ne 5, 3) := by decide +kernel
theorem dX9_undo_9 : decode cX9_undo 9 = .ok (.iconst (-1), 1) := by decide +kernel
theorem dX9_undo_10 : decode cX9_undo 10 = .ok (.ireturn, 1) := by decide +kernel
theorem dX9_undo_11 : decode cX9_undo 11 = .ok (.aload_n 0, 1) := by decide +kernel
theorem dX9_undo_12 : decode cX9_undo 12 = .ok (.getfield 7, 3) := by decide +kernel
theorem dX9_undo_15 : decode cX9_undo 15 = .ok (.iconst 4, 1) := by decide +kernel
theorem dX9_undo_16 : decode cX9_undo 16 = .ok (.dup2, 1) := by decide +kernel
theorem dX9_undo_17 : decode cX9_undo 17 = .ok (.iaload, 1) := by decide +kernel
theorem dX9_undo_18 : decode cX9_undo 18 = .ok (.iconst 1, 1) := by decide +kernel
theorem dX9_undo_19 : decode cX9_undo 19 = .ok (.isub, 1) := by decide +kernel
theorem dX9_undo_20 : decode cX9_undo 20 = .ok (.iastore, 1) := by decide +kernel
theorem dX9_undo_21 : decode cX9_undo 21 = .ok (.sipush 190, 3) := by decide +kernel
theorem dX9_undo_24 : decode cX9_undo 24 = .ok (.sipush 154, 3) := by decide +kernel
theorem dX9_undo_27 : decode cX9_undo 27 = .ok (.aload_n 0, 1) := by decide +kernel
theorem dX9_undo_28 : decode cX9_undo 28 = .ok (.getfield 7, 3) := by decide +kernel
theorem dX9_undo_31 : decode cX9_undo 31 = .ok (.iconst 4, 1) := by decide +kernel
theorem dX9_undo_32 : decode cX9_undo 32 = .ok (.iaload, 1) := by decide +kernel
theorem dX9_undo_33 : decode cX9_undo 33 = .ok (.imul, 1) := by decide +kernel
theorem dX9_undo_34 : decode cX9_undo 34 = .ok (.iadd, 1) := by decide +kernel
theorem dX9_undo_35 : decode cX9_undo 35 = .ok (.istore_n 1, 1) := by decide +kernel
theorem dX9_undo_36 : decode cX9_undo 36 = .ok (.iconst 0, 1) := by decide +kernel
theorem dX9_undo_37 : decode cX9_undo 37 = .ok (.istore_n 2, 1) := by decide +kernel
theorem dX9_undo_38 : decode cX9_undo 38 = .ok (.iload_n 2, 1) := by decide +kernel
theorem dX9_undo_39 : decode cX9_undo 39 = .ok (.iconst 5, 1) := by decide +kernel
theorem dX9_undo_40 : decode cX9_undo 40 = .ok (.if_icmp .ge 28, 3) := by decide +kernel
theorem dX9_undo_43 : decode cX9_undo 43 = .ok (.aload_n 0, 1) := by decide +kernel
theorem dX9_undo_44 : decode cX9_undo 44 = .ok (.getfield 7, 3) := by decide +kernel
theorem dX9_undo_47 : decode cX9_undo 47 = .ok (.bipush 8, 2) := by decide +kernel
theorem dX9_undo_49 : decode cX9_undo 49 = .ok (.iload_n 2, 1) := by decide +kernel
theorem dX9_undo_50 : decode cX9_undo 50 = .ok (.iadd, 1) := by decide +kernel
theorem dX9_undo_51 : decode cX9_undo 51 = .ok (.aload_n 0, 1) := by decide +kernel
theorem dX9_undo_52 : decode cX9_undo 52 = .ok (.getfield 7, 3) := by decide +kernel
theorem dX9_undo_55 : decode cX9_undo 55 = .ok (.iload_n 1, 1) := by decide +kernel
theorem dX9_undo_56 : decode cX9_undo 56 = .ok (.iconst 1, 1) := by decide +kernel
theorem dX9_undo_57 : decode cX9_undo 57 = .ok (.iadd, 1) := by decide +kernel
theorem dX9_undo_58 : decode cX9_undo 58 = .ok (.iload_n 2, 1) := by decide +kernel
theorem dX9_undo_59 : decode cX9_undo 59 = .ok (.iadd, 1) := by decide +kernel
theorem dX9_undo_60 : decode cX9_undo 60 = .ok (.iaload, 1) := by decide +kernel
theorem dX9_undo_61 : decode cX9_undo 61 = .ok (.iastore, 1) := by decide +kernel
theorem dX9_undo_62 : decode cX9_undo 62 = .ok (.iinc 2 1, 3) := by decide +kernel
theorem dX9_undo_65 : decode cX9_undo 65 = .ok (.goto (-27), 3) := by decide +kernel
theorem dX9_undo_68 : decode cX9_undo 68 = .ok (.iconst 0, 1) := by decide +kernel
theorem dX9_undo_69 : decode cX9_undo 69 = .ok (.istore_n 2, 1) := by decide +kernel
theorem dX9_undo_70 : decode cX9_undo 70 = .ok (.iload_n 2, 1) := by decide +kernel
theorem dX9_undo_71 : decode cX9_undo 71 = .ok (.aload_n 0, 1) := by decide +kernel
theorem dX9_undo_72 : decode cX9_undo 72 = .ok (.getfield 7, 3) := by decide +kernel
theorem dX9_undo_75 : decode cX9_undo 75 = .ok (.iconst 1, 1) := by decide +kernel
theorem dX9_undo_76 : decode cX9_undo 76 = .ok (.iaload, 1) := by decide +kernel
theorem dX9_undo_77 : decode cX9_undo 77 = .ok (.if_icmp .ge 68, 3) := by decide +kernel
theorem dX9_undo_80 : decode cX9_undo 80 = .ok (.iload_n 2, 1) := by decide +kernel
theorem dX9_undo_81 : decode cX9_undo 81 = .ok (.aload_n 0, 1) := by decide +kernel
theorem dX9_undo_82 : decode cX9_undo 82 = .ok (.getfield 7, 3) := by decide +kernel
theorem dX9_undo_85 : decode cX9_undo 85 = .ok (.iload_n 1, 1) := by decide +kernel
theorem dX9_undo_86 : decode cX9_undo 86 = .ok (.iaload, 1) := by decide +kernel
theorem dX9_undo_87 : decode cX9_undo 87 = .ok (.if_icmp .lt 8, 3) := by decide +kernel
theorem dX9_undo_90 : decode cX9_undo 90 = .ok (.aload_n 0, 1) := by decide +kernel
theorem dX9_undo_91 : decode cX9_undo 91 = .ok (.iload_n 2, 1) := by decide +kernel
theorem dX9_undo_92 : decode cX9_undo 92 = .ok (.invokevirtual 83, 3) := by decide +kernel
theorem dX9_undo_95 : decode cX9_undo 95 = .ok (.iconst 0, 1) := by decide +kernel
theorem dX9_undo_96 : decode cX9_undo 96 = .ok (.istore_n 3, 1) := by decide +kernel
theorem dX9_undo_97 : decode cX9_undo 97 = .ok (.iload_n 3, 1) := by decide +kernel
theorem dX9_undo_98 : decode cX9_undo 98 = .ok (.iconst 3, 1) := by decide +kernel
theorem dX9_undo_99 : decode cX9_undo 99 = .ok (.if_icmp .ge 40, 3) := by decide +kernel
theorem dX9_undo_102 : decode cX9_undo 102 = .ok (.iload_n 2, 1) := by decide +kernel
theorem dX9_undo_103 : decode cX9_undo 103 = .ok (.aload_n 0, 1) := by decide +kernel
theorem dX9_undo_104 : decode cX9_undo 104 = .ok (.getfield 7, 3) := by decide +kernel
theorem dX9_undo_107 : decode cX9_undo 107 = .ok (.iload_n 1, 1) := by decide +kernel
theorem dX9_undo_108 : decode cX9_undo 108 = .ok (.iaload, 1) := by decide +kernel
theorem dX9_undo_109 : decode cX9_undo 109 = .ok (.if_icmp .ge 30, 3) := by decide +kernel
theorem dX9_undo_112 : decode cX9_undo 112 = .ok (.aload_n 0, 1) := by decide +kernel
theorem dX9_undo_113 : decode cX9_undo 113 = .ok (.iload_n 2, 1) := by decide +kernel
theorem dX9_undo_114 : decode cX9_undo 114 = .ok (.iload_n 3, 1) := by decide +kernel
theorem dX9_undo_115 : decode cX9_undo 115 = .ok (.aload_n 0, 1) := by decide +kernel
theorem dX9_undo_116 : decode cX9_undo 116 = .ok (.getfield 7, 3) := by decide +kernel
theorem dX9_undo_119 : decode cX9_undo 119 = .ok (.iload_n 1, 1) := by decide +kernel
theorem dX9_undo_120 : decode cX9_undo 120 = .ok (.bipush 6, 2) := by decide +kernel
theorem dX9_undo_122 : decode cX9_undo 122 = .ok (.iadd, 1) := by decide +kernel
theorem dX9_undo_123 : decode cX9_undo 123 = .ok (.iconst 3, 1) := by decide +kernel
theorem dX9_undo_124 : decode cX9_undo 124 = .ok (.iload_n 2, 1) := by decide +kernel
theorem dX9_undo_125 : decode cX9_undo 125 = .ok (.imul, 1) := by decide +kernel
theorem dX9_undo_126 : decode cX9_undo 126 = .ok (.iadd, 1) := by decide +kernel
theorem dX9_undo_127 : decode cX9_undo 127 = .ok (.iload_n 3, 1) := by decide +kernel
theorem dX9_undo_128 : decode cX9_undo 128 = .ok (.iadd, 1) := by decide +kernel
theorem dX9_undo_129 : decode cX9_undo 129 = .ok (.iaload, 1) := by decide +kernel
theorem dX9_undo_130 : decode cX9_undo 130 = .ok (.invokevirtual 79, 3) := by decide +kernel
theorem dX9_undo_133 : decode cX9_undo 133 = .ok (.iinc 3 1, 3) := by decide +kernel
theorem dX9_undo_136 : decode cX9_undo 136 = .ok (.goto (-39), 3) := by decide +kernel
theorem dX9_undo_139 : decode cX9_undo 139 = .ok (.iinc 2 1, 3) := by decide +kernel
theorem dX9_undo_142 : decode cX9_undo 142 = .ok (.goto (-72), 3) := by decide +kernel
theorem dX9_undo_145 : decode cX9_undo 145 = .ok (.iconst 0, 1) := by decide +kernel
theorem dX9_undo_146 : decode cX9_undo 146 = .ok (.istore_n 2, 1) := by decide +kernel
theorem dX9_undo_147 : decode cX9_undo 147 = .ok (.iload_n 2, 1) := by decide +kernel
theorem dX9_undo_148 : decode cX9_undo 148 = .ok (.bipush 72, 2) := by decide +kernel
theorem dX9_undo_150 : decode cX9_undo 150 = .ok (.if_icmp .ge 29, 3) := by decide +kernel
theorem dX9_undo_153 : decode cX9_undo 153 = .ok (.aload_n 0, 1) := by decide +kernel
theorem dX9_undo_154 : decode cX9_undo 154 = .ok (.getfield 7, 3) := by decide +kernel
theorem dX9_undo_157 : decode cX9_undo 157 = .ok (.bipush 38, 2) := by decide +kernel
theorem dX9_undo_159 : decode cX9_undo 159 = .ok (.iload_n 2, 1) := by decide +kernel
theorem dX9_undo_160 : decode cX9_undo 160 = .ok (.iadd, 1) := by decide +kernel
theorem dX9_undo_161 : decode cX9_undo 161 = .ok (.aload_n 0, 1) := by decide +kernel
theorem dX9_undo_162 : decode cX9_undo 162 = .ok (.getfield 7, 3) := by decide +kernel
theorem dX9_undo_165 : decode cX9_undo 165 = .ok (.iload_n 1, 1) := by decide +kernel
theorem dX9_undo_166 : decode cX9_undo 166 = .ok (.bipush 21, 2) := by decide +kernel
theorem dX9_undo_168 : decode cX9_undo 168 = .ok (.iadd, 1) := by decide +kernel
theorem dX9_undo_169 : decode cX9_undo 169 = .ok (.iload_n 2, 1) := by decide +kernel
theorem dX9_undo_170 : decode cX9_undo 170 = .ok (.iadd, 1) := by decide +kernel
theorem dX9_undo_171 : decode cX9_undo 171 = .ok (.iaload, 1) := by decide +kernel
theorem dX9_undo_172 : decode cX9_undo 172 = .ok (.iastore, 1) := by decide +kernel
theorem dX9_undo_173 : decode cX9_undo 173 = .ok (.iinc 2 1, 3) := by decide +kernel
theorem dX9_undo_176 : decode cX9_undo 176 = .ok (.goto (-29), 3) := by decide +kernel
theorem dX9_undo_179 : decode cX9_undo 179 = .ok (.iconst 0, 1) := by decide +kernel
theorem dX9_undo_180 : decode cX9_undo 180 = .ok (.istore_n 2, 1) := by decide +kernel
theorem dX9_undo_181 : decode cX9_undo 181 = .ok (.iload_n 2, 1) := by decide +kernel
theorem dX9_undo_182 : decode cX9_undo 182 = .ok (.bipush 60, 2) := by decide +kernel
theorem dX9_undo_184 : decode cX9_undo 184 = .ok (.if_icmp .ge 30, 3) := by decide +kernel
theorem dX9_undo_187 : decode cX9_undo 187 = .ok (.aload_n 0, 1) := by decide +kernel
theorem dX9_undo_188 : decode cX9_undo 188 = .ok (.getfield 7, 3) := by decide +kernel
theorem dX9_undo_191 : decode cX9_undo 191 = .ok (.sipush 4810, 3) := by decide +kernel
theorem dX9_undo_194 : decode cX9_undo 194 = .ok (.iload_n 2, 1) := by decide +kernel
theorem dX9_undo_195 : decode cX9_undo 195 = .ok (.iadd, 1) := by decide +kernel
theorem dX9_undo_196 : decode cX9_undo 196 = .ok (.aload_n 0, 1) := by decide +kernel
theorem dX9_undo_197 : decode cX9_undo 197 = .ok (.getfield 7, 3) := by decide +kernel
theorem dX9_undo_200 : decode cX9_undo 200 = .ok (.iload_n 1, 1) := by decide +kernel
theorem dX9_undo_201 : decode cX9_undo 201 = .ok (.bipush 93, 2) := by decide +kernel
theorem dX9_undo_203 : decode cX9_undo 203 = .ok (.iadd, 1) := by decide +kernel
theorem dX9_undo_204 : decode cX9_undo 204 = .ok (.iload_n 2, 1) := by decide +kernel
theorem dX9_undo_205 : decode cX9_undo 205 = .ok (.iadd, 1) := by decide +kernel
theorem dX9_undo_206 : decode cX9_undo 206 = .ok (.iaload, 1) := by decide +kernel
theorem dX9_undo_207 : decode cX9_undo 207 = .ok (.iastore, 1) := by decide +kernel
theorem dX9_undo_208 : decode cX9_undo 208 = .ok (.iinc 2 1, 3) := by decide +kernel
theorem dX9_undo_211 : decode cX9_undo 211 = .ok (.goto (-30), 3) := by decide +kernel
theorem dX9_undo_214 : decode cX9_undo 214 = .ok (.aload_n 0, 1) := by decide +kernel
theorem dX9_undo_215 : decode cX9_undo 215 = .ok (.getfield 7, 3) := by decide +kernel
theorem dX9_undo_218 : decode cX9_undo 218 = .ok (.iconst 4, 1) := by decide +kernel
theorem dX9_undo_219 : decode cX9_undo 219 = .ok (.iaload, 1) := by decide +kernel
theorem dX9_undo_220 : decode cX9_undo 220 = .ok (.ireturn, 1) := by decide +kernel
theorem dX9_canForetell_0 : decode cX9_canForetell 0 = .ok (.aload_n 0, 1) := by decide +kernel
theorem dX9_canForetell_1 : decode cX9_canForetell 1 = .ok (.iload_n 1, 1) := by decide +kernel
theorem dX9_canForetell_2 : decode cX9_canForetell 2 = .ok (.invokevirtual 365, 3) := by decide +kernel
theorem dX9_canForetell_5 : decode cX9_canForetell 5 = .ok (.ifCond .eq 28, 3) := by decide +kernel
theorem dX9_canForetell_8 : decode cX9_canForetell 8 = .ok (.aload_n 0, 1) := by decide +kernel
theorem dX9_canForetell_9 : decode cX9_canForetell 9 = .ok (.iload_n 1, 1) := by decide +kernel
theorem dX9_canForetell_10 : decode cX9_canForetell 10 = .ok (.iconst 2, 1) := by decide +kernel
theorem dX9_canForetell_11 : decode cX9_canForetell 11 = .ok (.invokevirtual 87, 3) := by decide +kernel
theorem dX9_canForetell_14 : decode cX9_canForetell 14 = .ok (.ifCond .ne 19, 3) := by decide +kernel
theorem dX9_canForetell_17 : decode cX9_canForetell 17 = .ok (.aload_n 0, 1) := by decide +kernel
theorem dX9_canForetell_18 : decode cX9_canForetell 18 = .ok (.getfield 7, 3) := by decide +kernel
theorem dX9_canForetell_21 : decode cX9_canForetell 21 = .ok (.bipush 11, 2) := by decide +kernel
theorem dX9_canForetell_23 : decode cX9_canForetell 23 = .ok (.iaload, 1) := by decide +kernel
theorem dX9_canForetell_24 : decode cX9_canForetell 24 = .ok (.bipush 12, 2) := by decide +kernel
theorem dX9_canForetell_26 : decode cX9_canForetell 26 = .ok (.if_icmp .ge 7, 3) := by decide +kernel
theorem dX9_canForetell_29 : decode cX9_canForetell 29 = .ok (.iconst 1, 1) := by decide +kernel
theorem dX9_canForetell_30 : decode cX9_canForetell 30 = .ok (.goto 4, 3) := by decide +kernel
theorem dX9_canForetell_33 : decode cX9_canForetell 33 = .ok (.iconst 0, 1) := by decide +kernel
theorem dX9_canForetell_34 : decode cX9_canForetell 34 = .ok (.ireturn, 1) := by decide +kernel
theorem dX9_foretellNow_0 : decode cX9_foretellNow 0 = .ok (.aload_n 0, 1) := by decide +kernel
theorem dX9_foretellNow_1 : decode cX9_foretellNow 1 = .ok (.getfield 7, 3) := by decide +kernel
theorem dX9_foretellNow_4 : decode cX9_foretellNow 4 = .ok (.bipush 11, 2) := by decide +kernel
theorem dX9_foretellNow_6 : decode cX9_foretellNow 6 = .ok (.iaload, 1) := by decide +kernel
theorem dX9_foretellNow_7 : decode cX9_foretellNow 7 = .ok (.istore 6, 2) := by decide +kernel
theorem dX9_foretellNow_9 : decode cX9_foretellNow 9 = .ok (.aload_n 0, 1) := by decide +kernel
theorem dX9_foretellNow_10 : decode cX9_foretellNow 10 = .ok (.iload 6, 2) := by decide +kernel
theorem dX9_foretellNow_12 : decode cX9_foretellNow 12 = .ok (.iconst 0, 1) := by decide +kernel
theorem dX9_foretellNow_13 : decode cX9_foretellNow 13 = .ok (.iload_n 1, 1) := by decide +kernel
theorem dX9_foretellNow_14 : decode cX9_foretellNow 14 = .ok (.invokevirtual 329, 3) := by decide +kernel
theorem dX9_foretellNow_17 : decode cX9_foretellNow 17 = .ok (.aload_n 0, 1) := by decide +kernel
theorem dX9_foretellNow_18 : decode cX9_foretellNow 18 = .ok (.iload 6, 2) := by decide +kernel
theorem dX9_foretellNow_20 : decode cX9_foretellNow 20 = .ok (.iconst 1, 1) := by decide +kernel
theorem dX9_foretellNow_21 : decode cX9_foretellNow 21 = .ok (.iload_n 2, 1) := by decide +kernel
theorem dX9_foretellNow_22 : decode cX9_foretellNow 22 = .ok (.ifCond .eq 7, 3) := by decide +kernel
theorem dX9_foretellNow_25 : decode cX9_foretellNow 25 = .ok (.iconst 1, 1) := by decide +kernel
theorem dX9_foretellNow_26 : decode cX9_foretellNow 26 = .ok (.goto 4, 3) := by decide +kernel
theorem dX9_foretellNow_29 : decode cX9_foretellNow 29 = .ok (.iconst 0, 1) := by decide +kernel
theorem dX9_foretellNow_30 : decode cX9_foretellNow 30 = .ok (.invokevirtual 329, 3) := by decide +kernel
theorem dX9_foretellNow_33 : decode cX9_foretellNow 33 = .ok (.aload_n 0, 1) := by decide +kernel
theorem dX9_foretellNow_34 : decode cX9_foretellNow 34 = .ok (.iload 6, 2) := by decide +kernel
theorem dX9_foretellNow_36 : decode cX9_foretellNow 36 = .ok (.iconst 2, 1) := by decide +kernel
theorem dX9_foretellNow_37 : decode cX9_foretellNow 37 = .ok (.iload_n 3, 1) := by decide +kernel
theorem dX9_foretellNow_38 : decode cX9_foretellNow 38 = .ok (.invokevirtual 329, 3) := by decide +kernel
theorem dX9_foretellNow_41 : decode cX9_foretellNow 41 = .ok (.aload_n 0, 1) := by decide +kernel
theorem dX9_foretellNow_42 : decode cX9_foretellNow 42 = .ok (.iload 6, 2) := by decide +kernel
theorem dX9_foretellNow_44 : decode cX9_foretellNow 44 = .ok (.iconst 3, 1) := by decide +kernel
theorem dX9_foretellNow_45 : decode cX9_foretellNow 45 = .ok (.aload_n 0, 1) := by decide +kernel
theorem dX9_foretellNow_46 : decode cX9_foretellNow 46 = .ok (.getfield 7, 3) := by decide +kernel
theorem dX9_foretellNow_49 : decode cX9_foretellNow 49 = .ok (.bipush 8, 2) := by decide +kernel
theorem dX9_foretellNow_51 : decode cX9_foretellNow 51 = .ok (.iaload, 1) := by decide +kernel
theorem dX9_foretellNow_52 : decode cX9_foretellNow 52 = .ok (.iload 4, 2) := by decide +kernel
theorem dX9_foretellNow_54 : decode cX9_foretellNow 54 = .ok (.iadd, 1) := by decide +kernel
theorem dX9_foretellNow_55 : decode cX9_foretellNow 55 = .ok (.invokevirtual 329, 3) := by decide +kernel
theorem dX9_foretellNow_58 : decode cX9_foretellNow 58 = .ok (.aload_n 0, 1) := by decide +kernel
theorem dX9_foretellNow_59 : decode cX9_foretellNow 59 = .ok (.iload 6, 2) := by decide +kernel
theorem dX9_foretellNow_61 : decode cX9_foretellNow 61 = .ok (.iconst 4, 1) := by decide +kernel
theorem dX9_foretellNow_62 : decode cX9_foretellNow 62 = .ok (.iload 5, 2) := by decide +kernel
theorem dX9_foretellNow_64 : decode cX9_foretellNow 64 = .ok (.invokevirtual 329, 3) := by decide +kernel
theorem dX9_foretellNow_67 : decode cX9_foretellNow 67 = .ok (.aload_n 0, 1) := by decide +kernel
theorem dX9_foretellNow_68 : decode cX9_foretellNow 68 = .ok (.iload 6, 2) := by decide +kernel
theorem dX9_foretellNow_70 : decode cX9_foretellNow 70 = .ok (.iconst 5, 1) := by decide +kernel
theorem dX9_foretellNow_71 : decode cX9_foretellNow 71 = .ok (.iconst 0, 1) := by decide +kernel
theorem dX9_foretellNow_72 : decode cX9_foretellNow 72 = .ok (.invokevirtual 329, 3) := by decide +kernel
theorem dX9_foretellNow_75 : decode cX9_foretellNow 75 = .ok (.aload_n 0, 1) := by decide +kernel
theorem dX9_foretellNow_76 : decode cX9_foretellNow 76 = .ok (.getfield 7, 3) := by decide +kernel
theorem dX9_foretellNow_79 : decode cX9_foretellNow 79 = .ok (.bipush 11, 2) := by decide +kernel
theorem dX9_foretellNow_81 : decode cX9_foretellNow 81 = .ok (.dup2, 1) := by decide +kernel
theorem dX9_foretellNow_82 : decode cX9_foretellNow 82 = .ok (.iaload, 1) := by decide +kernel
theorem dX9_foretellNow_83 : decode cX9_foretellNow 83 = .ok (.iconst 1, 1) := by decide +kernel
theorem dX9_foretellNow_84 : decode cX9_foretellNow 84 = .ok (.iadd, 1) := by decide +kernel
theorem dX9_foretellNow_85 : decode cX9_foretellNow 85 = .ok (.iastore, 1) := by decide +kernel
theorem dX9_foretellNow_86 : decode cX9_foretellNow 86 = .ok (.aload_n 0, 1) := by decide +kernel
theorem dX9_foretellNow_87 : decode cX9_foretellNow 87 = .ok (.iload_n 1, 1) := by decide +kernel
theorem dX9_foretellNow_88 : decode cX9_foretellNow 88 = .ok (.iconst 0, 1) := by decide +kernel
theorem dX9_foretellNow_89 : decode cX9_foretellNow 89 = .ok (.aload_n 0, 1) := by decide +kernel
theorem dX9_foretellNow_90 : decode cX9_foretellNow 90 = .ok (.iload_n 1, 1) := by decide +kernel
theorem dX9_foretellNow_91 : decode cX9_foretellNow 91 = .ok (.iconst 0, 1) := by decide +kernel
theorem dX9_foretellNow_92 : decode cX9_foretellNow 92 = .ok (.invokevirtual 87, 3) := by decide +kernel
theorem dX9_foretellNow_95 : decode cX9_foretellNow 95 = .ok (.iload 5, 2) := by decide +kernel
theorem dX9_foretellNow_97 : decode cX9_foretellNow 97 = .ok (.iadd, 1) := by decide +kernel
theorem dX9_foretellNow_98 : decode cX9_foretellNow 98 = .ok (.i2l, 1) := by decide +kernel
theorem dX9_foretellNow_99 : decode cX9_foretellNow 99 = .ok (.iconst 0, 1) := by decide +kernel
theorem dX9_foretellNow_100 : decode cX9_foretellNow 100 = .ok (.sipush 9999, 3) := by decide +kernel
theorem dX9_foretellNow_103 : decode cX9_foretellNow 103 = .ok (.invokestatic 306, 3) := by decide +kernel
theorem dX9_foretellNow_106 : decode cX9_foretellNow 106 = .ok (.invokevirtual 79, 3) := by decide +kernel
theorem dX9_foretellNow_109 : decode cX9_foretellNow 109 = .ok (.return_, 1) := by decide +kernel
theorem dX9_foretell_0 : decode cX9_foretell 0 = .ok (.aload_n 0, 1) := by decide +kernel
theorem dX9_foretell_1 : decode cX9_foretell 1 = .ok (.iload_n 1, 1) := by decide +kernel
theorem dX9_foretell_2 : decode cX9_foretell 2 = .ok (.invokevirtual 368, 3) := by decide +kernel
theorem dX9_foretell_5 : decode cX9_foretell 5 = .ok (.ifCond .eq 34, 3) := by decide +kernel
theorem dX9_foretell_8 : decode cX9_foretell 8 = .ok (.aload_n 0, 1) := by decide +kernel
theorem dX9_foretell_9 : decode cX9_foretell 9 = .ok (.iload_n 3, 1) := by decide +kernel
theorem dX9_foretell_10 : decode cX9_foretell 10 = .ok (.invokevirtual 371, 3) := by decide +kernel
theorem dX9_foretell_13 : decode cX9_foretell 13 = .ok (.ifCond .eq 26, 3) := by decide +kernel
theorem dX9_foretell_16 : decode cX9_foretell 16 = .ok (.iload 4, 2) := by decide +kernel
theorem dX9_foretell_18 : decode cX9_foretell 18 = .ok (.iconst 1, 1) := by decide +kernel
theorem dX9_foretell_19 : decode cX9_foretell 19 = .ok (.bipush 99, 2) := by decide +kernel
theorem dX9_foretell_21 : decode cX9_foretell 21 = .ok (.invokestatic 63, 3) := by decide +kernel
theorem dX9_foretell_24 : decode cX9_foretell 24 = .ok (.ifCond .eq 15, 3) := by decide +kernel
theorem dX9_foretell_27 : decode cX9_foretell 27 = .ok (.iload 5, 2) := by decide +kernel
theorem dX9_foretell_29 : decode cX9_foretell 29 = .ok (.iconst 0, 1) := by decide +kernel
theorem dX9_foretell_30 : decode cX9_foretell 30 = .ok (.sipush 999, 3) := by decide +kernel
theorem dX9_foretell_33 : decode cX9_foretell 33 = .ok (.invokestatic 63, 3) := by decide +kernel
theorem dX9_foretell_36 : decode cX9_foretell 36 = .ok (.ifCond .ne 5, 3) := by decide +kernel
theorem dX9_foretell_39 : decode cX9_foretell 39 = .ok (.iconst (-1), 1) := by decide +kernel
theorem dX9_foretell_40 : decode cX9_foretell 40 = .ok (.ireturn, 1) := by decide +kernel
theorem dX9_foretell_41 : decode cX9_foretell 41 = .ok (.aload_n 0, 1) := by decide +kernel
theorem dX9_foretell_42 : decode cX9_foretell 42 = .ok (.invokevirtual 374, 3) := by decide +kernel
theorem dX9_foretell_45 : decode cX9_foretell 45 = .ok (.aload_n 0, 1) := by decide +kernel
theorem dX9_foretell_46 : decode cX9_foretell 46 = .ok (.iload_n 1, 1) := by decide +kernel
theorem dX9_foretell_47 : decode cX9_foretell 47 = .ok (.iload_n 2, 1) := by decide +kernel
theorem dX9_foretell_48 : decode cX9_foretell 48 = .ok (.iload_n 3, 1) := by decide +kernel
theorem dX9_foretell_49 : decode cX9_foretell 49 = .ok (.iload 4, 2) := by decide +kernel
theorem dX9_foretell_51 : decode cX9_foretell 51 = .ok (.iload 5, 2) := by decide +kernel
theorem dX9_foretell_53 : decode cX9_foretell 53 = .ok (.invokevirtual 377, 3) := by decide +kernel
theorem dX9_foretell_56 : decode cX9_foretell 56 = .ok (.aload_n 0, 1) := by decide +kernel
theorem dX9_foretell_57 : decode cX9_foretell 57 = .ok (.getfield 7, 3) := by decide +kernel
theorem dX9_foretell_60 : decode cX9_foretell 60 = .ok (.bipush 11, 2) := by decide +kernel
theorem dX9_foretell_62 : decode cX9_foretell 62 = .ok (.iaload, 1) := by decide +kernel
theorem dX9_foretell_63 : decode cX9_foretell 63 = .ok (.iconst 1, 1) := by decide +kernel
theorem dX9_foretell_64 : decode cX9_foretell 64 = .ok (.isub, 1) := by decide +kernel
theorem dX9_foretell_65 : decode cX9_foretell 65 = .ok (.ireturn, 1) := by decide +kernel
theorem dX9_canTurn_0 : decode cX9_canTurn 0 = .ok (.aload_n 0, 1) := by decide +kernel
theorem dX9_canTurn_1 : decode cX9_canTurn 1 = .ok (.iload_n 1, 1) := by decide +kernel
theorem dX9_canTurn_2 : decode cX9_canTurn 2 = .ok (.invokevirtual 365, 3) := by decide +kernel
theorem dX9_canTurn_5 : decode cX9_canTurn 5 = .ok (.ifCond .eq 52, 3) := by decide +kernel
theorem dX9_canTurn_8 : decode cX9_canTurn 8 = .ok (.aload_n 0, 1) := by decide +kernel
theorem dX9_canTurn_9 : decode cX9_canTurn 9 = .ok (.iload_n 2, 1) := by decide +kernel
theorem dX9_canTurn_10 : decode cX9_canTurn 10 = .ok (.invokevirtual 381, 3) := by decide +kernel
theorem dX9_canTurn_13 : decode cX9_canTurn 13 = .ok (.ifCond .eq 44, 3) := by decide +kernel
theorem dX9_canTurn_16 : decode cX9_canTurn 16 = .ok (.aload_n 0, 1) := by decide +kernel
theorem dX9_canTurn_17 : decode cX9_canTurn 17 = .ok (.getfield 7, 3) := by decide +kernel
theorem dX9_canTurn_20 : decode cX9_canTurn 20 = .ok (.bipush 10, 2) := by decide +kernel
theorem dX9_canTurn_22 : decode cX9_canTurn 22 = .ok (.iaload, 1) := by decide +kernel
theorem dX9_canTurn_23 : decode cX9_canTurn 23 = .ok (.iload_n 2, 1) := by decide +kernel
theorem dX9_canTurn_24 : decode cX9_canTurn 24 = .ok (.invokestatic 261, 3) := by decide +kernel
theorem dX9_canTurn_27 : decode cX9_canTurn 27 = .ok (.iload_n 3, 1) := by decide +kernel
theorem dX9_canTurn_28 : decode cX9_canTurn 28 = .ok (.if_icmp .ne 29, 3) := by decide +kernel
theorem dX9_canTurn_31 : decode cX9_canTurn 31 = .ok (.aload_n 0, 1) := by decide +kernel
theorem dX9_canTurn_32 : decode cX9_canTurn 32 = .ok (.iload_n 1, 1) := by decide +kernel
theorem dX9_canTurn_33 : decode cX9_canTurn 33 = .ok (.iconst 0, 1) := by decide +kernel
theorem dX9_canTurn_34 : decode cX9_canTurn 34 = .ok (.invokevirtual 87, 3) := by decide +kernel
theorem dX9_canTurn_37 : decode cX9_canTurn 37 = .ok (.aload_n 0, 1) := by decide +kernel
theorem dX9_canTurn_38 : decode cX9_canTurn 38 = .ok (.getfield 7, 3) := by decide +kernel
theorem dX9_canTurn_41 : decode cX9_canTurn 41 = .ok (.bipush 110, 2) := by decide +kernel
theorem dX9_canTurn_43 : decode cX9_canTurn 43 = .ok (.iconst 2, 1) := by decide +kernel
theorem dX9_canTurn_44 : decode cX9_canTurn 44 = .ok (.iload_n 2, 1) := by decide +kernel
theorem dX9_canTurn_45 : decode cX9_canTurn 45 = .ok (.imul, 1) := by decide +kernel
theorem dX9_canTurn_46 : decode cX9_canTurn 46 = .ok (.iadd, 1) := by decide +kernel
theorem dX9_canTurn_47 : decode cX9_canTurn 47 = .ok (.iconst 1, 1) := by decide +kernel
theorem dX9_canTurn_48 : decode cX9_canTurn 48 = .ok (.iadd, 1) := by decide +kernel
theorem dX9_canTurn_49 : decode cX9_canTurn 49 = .ok (.iaload, 1) := by decide +kernel
theorem dX9_canTurn_50 : decode cX9_canTurn 50 = .ok (.if_icmp .lt 7, 3) := by decide +kernel
theorem dX9_canTurn_53 : decode cX9_canTurn 53 = .ok (.iconst 1, 1) := by decide +kernel
theorem dX9_canTurn_54 : decode cX9_canTurn 54 = .ok (.goto 4, 3) := by decide +kernel
theorem dX9_canTurn_57 : decode cX9_canTurn 57 = .ok (.iconst 0, 1) := by decide +kernel
theorem dX9_canTurn_58 : decode cX9_canTurn 58 = .ok (.ireturn, 1) := by decide +kernel
theorem dX9_turnNow_0 : decode cX9_turnNow 0 = .ok (.aload_n 0, 1) := by decide +kernel
theorem dX9_turnNow_1 : decode cX9_turnNow 1 = .ok (.iload_n 1, 1) := by decide +kernel
theorem dX9_turnNow_2 : decode cX9_turnNow 2 = .ok (.iconst 0, 1) := by decide +kernel
theorem dX9_turnNow_3 : decode cX9_turnNow 3 = .ok (.aload_n 0, 1) := by decide +kernel
theorem dX9_turnNow_4 : decode cX9_turnNow 4 = .ok (.iload_n 1, 1) := by decide +kernel
theorem dX9_turnNow_5 : decode cX9_turnNow 5 = .ok (.iconst 0, 1) := by decide +kernel
theorem dX9_turnNow_6 : decode cX9_turnNow 6 = .ok (.invokevirtual 87, 3) := by decide +kernel
theorem dX9_turnNow_9 : decode cX9_turnNow 9 = .ok (.aload_n 0, 1) := by decide +kernel
theorem dX9_turnNow_10 : decode cX9_turnNow 10 = .ok (.getfield 7, 3) := by decide +kernel
theorem dX9_turnNow_13 : decode cX9_turnNow 13 = .ok (.bipush 110, 2) := by decide +kernel
theorem dX9_turnNow_15 : decode cX9_turnNow 15 = .ok (.iconst 2, 1) := by decide +kernel
theorem dX9_turnNow_16 : decode cX9_turnNow 16 = .ok (.iload_n 2, 1) := by decide +kernel
theorem dX9_turnNow_17 : decode cX9_turnNow 17 = .ok (.imul, 1) := by decide +kernel
theorem dX9_turnNow_18 : decode cX9_turnNow 18 = .ok (.iadd, 1) := by decide +kernel
theorem dX9_turnNow_19 : decode cX9_turnNow 19 = .ok (.iconst 1, 1) := by decide +kernel
theorem dX9_turnNow_20 : decode cX9_turnNow 20 = .ok (.iadd, 1) := by decide +kernel
theorem dX9_turnNow_21 : decode cX9_turnNow 21 = .ok (.iaload, 1) := by decide +kernel
theorem dX9_turnNow_22 : decode cX9_turnNow 22 = .ok (.isub, 1) := by decide +kernel
theorem dX9_turnNow_23 : decode cX9_turnNow 23 = .ok (.invokevirtual 79, 3) := by decide +kernel
theorem dX9_turnNow_26 : decode cX9_turnNow 26 = .ok (.aload_n 0, 1) := by decide +kernel
theorem dX9_turnNow_27 : decode cX9_turnNow 27 = .ok (.getfield 7, 3) := by decide +kernel
theorem dX9_turnNow_30 : decode cX9_turnNow 30 = .ok (.bipush 10, 2) := by decide +kernel
theorem dX9_turnNow_32 : decode cX9_turnNow 32 = .ok (.dup2, 1) := by decide +kernel
theorem dX9_turnNow_33 : decode cX9_turnNow 33 = .ok (.iaload, 1) := by decide +kernel
theorem dX9_turnNow_34 : decode cX9_turnNow 34 = .ok (.iconst 1, 1) := by decide +kernel
theorem dX9_turnNow_35 : decode cX9_turnNow 35 = .ok (.iload_n 2, 1) := by decide +kernel
theorem dX9_turnNow_36 : decode cX9_turnNow 36 = .ok (.ishl, 1) := by decide +kernel
theorem dX9_turnNow_37 : decode cX9_turnNow 37 = .ok (.ixor, 1) := by decide +kernel
theorem dX9_turnNow_38 : decode cX9_turnNow 38 = .ok (.iastore, 1) := by decide +kernel
theorem dX9_turnNow_39 : decode cX9_turnNow 39 = .ok (.return_, 1) := by decide +kernel
theorem dX9_bring_0 : decode cX9_bring 0 = .ok (.aload_n 0, 1) := by decide +kernel
theorem dX9_bring_1 : decode cX9_bring 1 = .ok (.iload_n 1, 1) := by decide +kernel
theorem dX9_bring_2 : decode cX9_bring 2 = .ok (.iload_n 2, 1) := by decide +kernel
theorem dX9_bring_3 : decode cX9_bring 3 = .ok (.iconst 0, 1) := by decide +kernel
theorem dX9_bring_4 : decode cX9_bring 4 = .ok (.invokevirtual 384, 3) := by decide +kernel
theorem dX9_bring_7 : decode cX9_bring 7 = .ok (.ifCond .ne 5, 3) := by decide +kernel
theorem dX9_bring_10 : decode cX9_bring 10 = .ok (.iconst 0, 1) := by decide +kernel
theorem dX9_bring_11 : decode cX9_bring 11 = .ok (.ireturn, 1) := by decide +kernel
theorem dX9_bring_12 : decode cX9_bring 12 = .ok (.aload_n 0, 1) := by decide +kernel
theorem dX9_bring_13 : decode cX9_bring 13 = .ok (.invokevirtual 374, 3) := by decide +kernel
theorem dX9_bring_16 : decode cX9_bring 16 = .ok (.aload_n 0, 1) := by decide +kernel
theorem dX9_bring_17 : decode cX9_bring 17 = .ok (.iload_n 1, 1) := by decide +kernel
theorem dX9_bring_18 : decode cX9_bring 18 = .ok (.iload_n 2, 1) := by decide +kernel
theorem dX9_bring_19 : decode cX9_bring 19 = .ok (.invokevirtual 388, 3) := by decide +kernel
theorem dX9_bring_22 : decode cX9_bring 22 = .ok (.iconst 1, 1) := by decide +kernel
theorem dX9_bring_23 : decode cX9_bring 23 = .ok (.ireturn, 1) := by decide +kernel
theorem dX9_spoil_0 : decode cX9_spoil 0 = .ok (.aload_n 0, 1) := by decide +kernel
theorem dX9_spoil_1 : decode cX9_spoil 1 = .ok (.iload_n 1, 1) := by decide +kernel
theorem dX9_spoil_2 : decode cX9_spoil 2 = .ok (.iload_n 2, 1) := by decide +kernel
theorem dX9_spoil_3 : decode cX9_spoil 3 = .ok (.iconst 1, 1) := by decide +kernel
theorem dX9_spoil_4 : decode cX9_spoil 4 = .ok (.invokevirtual 384, 3) := by decide +kernel
theorem dX9_spoil_7 : decode cX9_spoil 7 = .ok (.ifCond .ne 5, 3) := by decide +kernel
theorem dX9_spoil_10 : decode cX9_spoil 10 = .ok (.iconst 0, 1) := by decide +kernel
theorem dX9_spoil_11 : decode cX9_spoil 11 = .ok (.ireturn, 1) := by decide +kernel
theorem dX9_spoil_12 : decode cX9_spoil 12 = .ok (.aload_n 0, 1) := by decide +kernel
theorem dX9_spoil_13 : decode cX9_spoil 13 = .ok (.invokevirtual 374, 3) := by decide +kernel
theorem dX9_spoil_16 : decode cX9_spoil 16 = .ok (.aload_n 0, 1) := by decide +kernel
theorem dX9_spoil_17 : decode cX9_spoil 17 = .ok (.iload_n 1, 1) := by decide +kernel
theorem dX9_spoil_18 : decode cX9_spoil 18 = .ok (.iload_n 2, 1) := by decide +kernel
theorem dX9_spoil_19 : decode cX9_spoil 19 = .ok (.invokevirtual 388, 3) := by decide +kernel
theorem dX9_spoil_22 : decode cX9_spoil 22 = .ok (.iconst 1, 1) := by decide +kernel
theorem dX9_spoil_23 : decode cX9_spoil 23 = .ok (.ireturn, 1) := by decide +kernel
theorem dX9_canSell_0 : decode cX9_canSell 0 = .ok (.aload_n 0, 1) := by decide +kernel
theorem dX9_canSell_1 : decode cX9_canSell 1 = .ok (.iload_n 1, 1) := by decide +kernel
theorem dX9_canSell_2 : decode cX9_canSell 2 = .ok (.invokevirtual 353, 3) := by decide +kernel
theorem dX9_canSell_5 : decode cX9_canSell 5 = .ok (.ifCond .eq 60, 3) := by decide +kernel
theorem dX9_canSell_8 : decode cX9_canSell 8 = .ok (.aload_n 0, 1) := by decide +kernel
theorem dX9_canSell_9 : decode cX9_canSell 9 = .ok (.iload_n 2, 1) := by decide +kernel
theorem dX9_canSell_10 : decode cX9_canSell 10 = .ok (.invokevirtual 365, 3) := by decide +kernel
theorem dX9_canSell_13 : decode cX9_canSell 13 = .ok (.ifCond .eq 52, 3) := by decide +kernel
theorem dX9_canSell_16 : decode cX9_canSell 16 = .ok (.iload_n 2, 1) := by decide +kernel
theorem dX9_canSell_17 : decode cX9_canSell 17 = .ok (.aload_n 0, 1) := by decide +kernel
theorem dX9_canSell_18 : decode cX9_canSell 18 = .ok (.iload_n 1, 1) := by decide +kernel
theorem dX9_canSell_19 : decode cX9_canSell 19 = .ok (.iconst 0, 1) := by decide +kernel
theorem dX9_canSell_20 : decode cX9_canSell 20 = .ok (.invokevirtual 67, 3) := by decide +kernel
theorem dX9_canSell_23 : decode cX9_canSell 23 = .ok (.if_icmp .eq 42, 3) := by decide +kernel
theorem dX9_canSell_26 : decode cX9_canSell 26 = .ok (.aload_n 0, 1) := by decide +kernel
theorem dX9_canSell_27 : decode cX9_canSell 27 = .ok (.iload_n 2, 1) := by decide +kernel
theorem dX9_canSell_28 : decode cX9_canSell 28 = .ok (.iconst 2, 1) := by decide +kernel
theorem dX9_canSell_29 : decode cX9_canSell 29 = .ok (.invokevirtual 87, 3) := by decide +kernel
theorem dX9_canSell_32 : decode cX9_canSell 32 = .ok (.ifCond .ne 33, 3) := by decide +kernel
theorem dX9_canSell_35 : decode cX9_canSell 35 = .ok (.iload_n 3, 1) := by decide +kernel
theorem dX9_canSell_36 : decode cX9_canSell 36 = .ok (.iconst 0, 1) := by decide +kernel
theorem dX9_canSell_37 : decode cX9_canSell 37 = .ok (.sipush 999, 3) := by decide +kernel
theorem dX9_canSell_40 : decode cX9_canSell 40 = .ok (.invokestatic 63, 3) := by decide +kernel
theorem dX9_canSell_43 : decode cX9_canSell 43 = .ok (.ifCond .eq 22, 3) := by decide +kernel
theorem dX9_canSell_46 : decode cX9_canSell 46 = .ok (.aload_n 0, 1) := by decide +kernel
theorem dX9_canSell_47 : decode cX9_canSell 47 = .ok (.aload_n 0, 1) := by decide +kernel
theorem dX9_canSell_48 : decode cX9_canSell 48 = .ok (.iload_n 1, 1) := by decide +kernel
theorem dX9_canSell_49 : decode cX9_canSell 49 = .ok (.iconst 0, 1) := by decide +kernel
theorem dX9_canSell_50 : decode cX9_canSell 50 = .ok (.invokevirtual 67, 3) := by decide +kernel
theorem dX9_canSell_53 : decode cX9_canSell 53 = .ok (.iconst 0, 1) := by decide +kernel
theorem dX9_canSell_54 : decode cX9_canSell 54 = .ok (.invokevirtual 87, 3) := by decide +kernel
theorem dX9_canSell_57 : decode cX9_canSell 57 = .ok (.iload_n 3, 1) := by decide +kernel
theorem dX9_canSell_58 : decode cX9_canSell 58 = .ok (.if_icmp .lt 7, 3) := by decide +kernel
theorem dX9_canSell_61 : decode cX9_canSell 61 = .ok (.iconst 1, 1) := by decide +kernel
theorem dX9_canSell_62 : decode cX9_canSell 62 = .ok (.goto 4, 3) := by decide +kernel
theorem dX9_canSell_65 : decode cX9_canSell 65 = .ok (.iconst 0, 1) := by decide +kernel
theorem dX9_canSell_66 : decode cX9_canSell 66 = .ok (.ireturn, 1) := by decide +kernel
theorem dX9_sell_0 : decode cX9_sell 0 = .ok (.aload_n 0, 1) := by decide +kernel
theorem dX9_sell_1 : decode cX9_sell 1 = .ok (.iload_n 1, 1) := by decide +kernel
theorem dX9_sell_2 : decode cX9_sell 2 = .ok (.iload_n 2, 1) := by decide +kernel
theorem dX9_sell_3 : decode cX9_sell 3 = .ok (.iload_n 3, 1) := by decide +kernel
theorem dX9_sell_4 : decode cX9_sell 4 = .ok (.invokevirtual 391, 3) := by decide +kernel
theorem dX9_sell_7 : decode cX9_sell 7 = .ok (.ifCond .ne 5, 3) := by decide +kernel
theorem dX9_sell_10 : decode cX9_sell 10 = .ok (.iconst 0, 1) := by decide +kernel
theorem dX9_sell_11 : decode cX9_sell 11 = .ok (.ireturn, 1) := by decide +kernel
theorem dX9_sell_12 : decode cX9_sell 12 = .ok (.aload_n 0, 1) := by decide +kernel
theorem dX9_sell_13 : decode cX9_sell 13 = .ok (.invokevirtual 374, 3) := by decide +kernel
theorem dX9_sell_16 : decode cX9_sell 16 = .ok (.aload_n 0, 1) := by decide +kernel
theorem dX9_sell_17 : decode cX9_sell 17 = .ok (.iload_n 1, 1) := by decide +kernel
theorem dX9_sell_18 : decode cX9_sell 18 = .ok (.iconst 0, 1) := by decide +kernel
theorem dX9_sell_19 : decode cX9_sell 19 = .ok (.invokevirtual 67, 3) := by decide +kernel
theorem dX9_sell_22 : decode cX9_sell 22 = .ok (.istore 4, 2) := by decide +kernel
theorem dX9_sell_24 : decode cX9_sell 24 = .ok (.aload_n 0, 1) := by decide +kernel
theorem dX9_sell_25 : decode cX9_sell 25 = .ok (.iload 4, 2) := by decide +kernel
theorem dX9_sell_27 : decode cX9_sell 27 = .ok (.iconst 0, 1) := by decide +kernel
theorem dX9_sell_28 : decode cX9_sell 28 = .ok (.aload_n 0, 1) := by decide +kernel
theorem dX9_sell_29 : decode cX9_sell 29 = .ok (.iload 4, 2) := by decide +kernel
theorem dX9_sell_31 : decode cX9_sell 31 = .ok (.iconst 0, 1) := by decide +kernel
theorem dX9_sell_32 : decode cX9_sell 32 = .ok (.invokevirtual 87, 3) := by decide +kernel
theorem dX9_sell_35 : decode cX9_sell 35 = .ok (.iload_n 3, 1) := by decide +kernel
theorem dX9_sell_36 : decode cX9_sell 36 = .ok (.isub, 1) := by decide +kernel
theorem dX9_sell_37 : decode cX9_sell 37 = .ok (.invokevirtual 79, 3) := by decide +kernel
theorem dX9_sell_40 : decode cX9_sell 40 = .ok (.aload_n 0, 1) := by decide +kernel
theorem dX9_sell_41 : decode cX9_sell 41 = .ok (.iload_n 2, 1) := by decide +kernel
theorem dX9_sell_42 : decode cX9_sell 42 = .ok (.iconst 0, 1) := by decide +kernel
theorem dX9_sell_43 : decode cX9_sell 43 = .ok (.aload_n 0, 1) := by decide +kernel
theorem dX9_sell_44 : decode cX9_sell 44 = .ok (.iload_n 2, 1) := by decide +kernel
theorem dX9_sell_45 : decode cX9_sell 45 = .ok (.iconst 0, 1) := by decide +kernel
theorem dX9_sell_46 : decode cX9_sell 46 = .ok (.invokevirtual 87, 3) := by decide +kernel
theorem dX9_sell_49 : decode cX9_sell 49 = .ok (.iload_n 3, 1) := by decide +kernel
theorem dX9_sell_50 : decode cX9_sell 50 = .ok (.iadd, 1) := by decide +kernel
theorem dX9_sell_51 : decode cX9_sell 51 = .ok (.i2l, 1) := by decide +kernel
theorem dX9_sell_52 : decode cX9_sell 52 = .ok (.iconst 0, 1) := by decide +kernel
theorem dX9_sell_53 : decode cX9_sell 53 = .ok (.sipush 9999, 3) := by decide +kernel
theorem dX9_sell_56 : decode cX9_sell 56 = .ok (.invokestatic 306, 3) := by decide +kernel
theorem dX9_sell_59 : decode cX9_sell 59 = .ok (.invokevirtual 79, 3) := by decide +kernel
theorem dX9_sell_62 : decode cX9_sell 62 = .ok (.aload_n 0, 1) := by decide +kernel
theorem dX9_sell_63 : decode cX9_sell 63 = .ok (.iload_n 1, 1) := by decide +kernel
theorem dX9_sell_64 : decode cX9_sell 64 = .ok (.iconst 0, 1) := by decide +kernel
theorem dX9_sell_65 : decode cX9_sell 65 = .ok (.iload_n 2, 1) := by decide +kernel
theorem dX9_sell_66 : decode cX9_sell 66 = .ok (.invokevirtual 329, 3) := by decide +kernel
theorem dX9_sell_69 : decode cX9_sell 69 = .ok (.aload_n 0, 1) := by decide +kernel
theorem dX9_sell_70 : decode cX9_sell 70 = .ok (.iload_n 1, 1) := by decide +kernel
theorem dX9_sell_71 : decode cX9_sell 71 = .ok (.iconst 2, 1) := by decide +kernel
theorem dX9_sell_72 : decode cX9_sell 72 = .ok (.iload_n 3, 1) := by decide +kernel
theorem dX9_sell_73 : decode cX9_sell 73 = .ok (.invokevirtual 335, 3) := by decide +kernel
theorem dX9_sell_76 : decode cX9_sell 76 = .ok (.iconst 1, 1) := by decide +kernel
theorem dX9_sell_77 : decode cX9_sell 77 = .ok (.ireturn, 1) := by decide +kernel
theorem dX9_arePassed_0 : decode cX9_arePassed 0 = .ok (.aload_n 0, 1) := by decide +kernel
theorem dX9_arePassed_1 : decode cX9_arePassed 1 = .ok (.iconst 0, 1) := by decide +kernel
theorem dX9_arePassed_2 : decode cX9_arePassed 2 = .ok (.putfield 332, 3) := by decide +kernel
theorem dX9_arePassed_5 : decode cX9_arePassed 5 = .ok (.iconst 0, 1) := by decide +kernel
theorem dX9_arePassed_6 : decode cX9_arePassed 6 = .ok (.istore_n 2, 1) := by decide +kernel
theorem dX9_arePassed_7 : decode cX9_arePassed 7 = .ok (.iload_n 2, 1) := by decide +kernel
theorem dX9_arePassed_8 : decode cX9_arePassed 8 = .ok (.iload_n 1, 1) := by decide +kernel
theorem dX9_arePassed_9 : decode cX9_arePassed 9 = .ok (.if_icmp .ge 32, 3) := by decide +kernel
theorem dX9_arePassed_12 : decode cX9_arePassed 12 = .ok (.aload_n 0, 1) := by decide +kernel
theorem dX9_arePassed_13 : decode cX9_arePassed 13 = .ok (.getfield 7, 3) := by decide +kernel
theorem dX9_arePassed_16 : decode cX9_arePassed 16 = .ok (.bipush 8, 2) := by decide +kernel
theorem dX9_arePassed_18 : decode cX9_arePassed 18 = .ok (.iaload, 1) := by decide +kernel
theorem dX9_arePassed_19 : decode cX9_arePassed 19 = .ok (.sipush 9999, 3) := by decide +kernel
theorem dX9_arePassed_22 : decode cX9_arePassed 22 = .ok (.if_icmp .ne 5, 3) := by decide +kernel
theorem dX9_arePassed_25 : decode cX9_arePassed 25 = .ok (.iconst 0, 1) := by decide +kernel
theorem dX9_arePassed_26 : decode cX9_arePassed 26 = .ok (.ireturn, 1) := by decide +kernel
theorem dX9_arePassed_27 : decode cX9_arePassed 27 = .ok (.aload_n 0, 1) := by decide +kernel
theorem dX9_arePassed_28 : decode cX9_arePassed 28 = .ok (.invokevirtual 374, 3) := by decide +kernel
theorem dX9_arePassed_31 : decode cX9_arePassed 31 = .ok (.aload_n 0, 1) := by decide +kernel
theorem dX9_arePassed_32 : decode cX9_arePassed 32 = .ok (.invokevirtual 394, 3) := by decide +kernel
theorem dX9_arePassed_35 : decode cX9_arePassed 35 = .ok (.iinc 2 1, 3) := by decide +kernel
theorem dX9_arePassed_38 : decode cX9_arePassed 38 = .ok (.goto (-31), 3) := by decide +kernel
theorem dX9_arePassed_41 : decode cX9_arePassed 41 = .ok (.iconst 1, 1) := by decide +kernel
theorem dX9_arePassed_42 : decode cX9_arePassed 42 = .ok (.ireturn, 1) := by decide +kernel
theorem dX9_day_0 : decode cX9_day 0 = .ok (.iload_n 1, 1) := by decide +kernel
theorem dX9_day_1 : decode cX9_day 1 = .ok (.iconst 1, 1) := by decide +kernel
theorem dX9_day_2 : decode cX9_day 2 = .ok (.bipush 60, 2) := by decide +kernel
theorem dX9_day_4 : decode cX9_day 4 = .ok (.invokestatic 63, 3) := by decide +kernel
theorem dX9_day_7 : decode cX9_day 7 = .ok (.ifCond .eq 33, 3) := by decide +kernel
theorem dX9_day_10 : decode cX9_day 10 = .ok (.aload_n 0, 1) := by decide +kernel
theorem dX9_day_11 : decode cX9_day 11 = .ok (.getfield 7, 3) := by decide +kernel
theorem dX9_day_14 : decode cX9_day 14 = .ok (.bipush 8, 2) := by decide +kernel
theorem dX9_day_16 : decode cX9_day 16 = .ok (.iaload, 1) := by decide +kernel
theorem dX9_day_17 : decode cX9_day 17 = .ok (.iload_n 1, 1) := by decide +kernel
theorem dX9_day_18 : decode cX9_day 18 = .ok (.iadd, 1) := by decide +kernel
theorem dX9_day_19 : decode cX9_day 19 = .ok (.sipush 9999, 3) := by decide +kernel
theorem dX9_day_22 : decode cX9_day 22 = .ok (.if_icmp .gt 18, 3) := by decide +kernel
theorem dX9_day_25 : decode cX9_day 25 = .ok (.aload_n 0, 1) := by decide +kernel
theorem dX9_day_26 : decode cX9_day 26 = .ok (.iload_n 1, 1) := by decide +kernel
theorem dX9_day_27 : decode cX9_day 27 = .ok (.invokevirtual 397, 3) := by decide +kernel
theorem dX9_day_30 : decode cX9_day 30 = .ok (.ifCond .eq 10, 3) := by decide +kernel
theorem dX9_day_33 : decode cX9_day 33 = .ok (.aload_n 0, 1) := by decide +kernel
theorem dX9_day_34 : decode cX9_day 34 = .ok (.getfield 332, 3) := by decide +kernel
theorem dX9_day_37 : decode cX9_day 37 = .ok (.goto 4, 3) := by decide +kernel
theorem dX9_day_40 : decode cX9_day 40 = .ok (.iconst (-1), 1) := by decide +kernel
theorem dX9_day_41 : decode cX9_day 41 = .ok (.ireturn, 1) := by decide +kernel
theorem dX9_isPlayed_0 : decode cX9_isPlayed 0 = .ok (.aload_n 0, 1) := by decide +kernel
theorem dX9_isPlayed_1 : decode cX9_isPlayed 1 = .ok (.getfield 16, 3) := by decide +kernel
theorem dX9_isPlayed_4 : decode cX9_isPlayed 4 = .ok (.iload_n 1, 1) := by decide +kernel
theorem dX9_isPlayed_5 : decode cX9_isPlayed 5 = .ok (.iconst 1, 1) := by decide +kernel
theorem dX9_isPlayed_6 : decode cX9_isPlayed 6 = .ok (.iadd, 1) := by decide +kernel
theorem dX9_isPlayed_7 : decode cX9_isPlayed 7 = .ok (.iaload, 1) := by decide +kernel
theorem dX9_isPlayed_8 : decode cX9_isPlayed 8 = .ok (.istore_n 2, 1) := by decide +kernel
theorem dX9_isPlayed_9 : decode cX9_isPlayed 9 = .ok (.aload_n 0, 1) := by decide +kernel
theorem dX9_isPlayed_10 : decode cX9_isPlayed 10 = .ok (.getfield 16, 3) := by decide +kernel
theorem dX9_isPlayed_13 : decode cX9_isPlayed 13 = .ok (.iload_n 1, 1) := by decide +kernel
theorem dX9_isPlayed_14 : decode cX9_isPlayed 14 = .ok (.iconst 2, 1) := by decide +kernel
theorem dX9_isPlayed_15 : decode cX9_isPlayed 15 = .ok (.iadd, 1) := by decide +kernel
theorem dX9_isPlayed_16 : decode cX9_isPlayed 16 = .ok (.iaload, 1) := by decide +kernel
theorem dX9_isPlayed_17 : decode cX9_isPlayed 17 = .ok (.istore_n 3, 1) := by decide +kernel
theorem dX9_isPlayed_18 : decode cX9_isPlayed 18 = .ok (.aload_n 0, 1) := by decide +kernel
theorem dX9_isPlayed_19 : decode cX9_isPlayed 19 = .ok (.getfield 16, 3) := by decide +kernel
theorem dX9_isPlayed_22 : decode cX9_isPlayed 22 = .ok (.iload_n 1, 1) := by decide +kernel
theorem dX9_isPlayed_23 : decode cX9_isPlayed 23 = .ok (.iaload, 1) := by decide +kernel
theorem dX9_isPlayed_24 : decode cX9_isPlayed 24 = .ok (.tableswitch 157 3 9 #[44, 59, 74, 122, 129, 136, 151], 44) := by decide +kernel
theorem dX9_isPlayed_68 : decode cX9_isPlayed 68 = .ok (.aload_n 0, 1) := by decide +kernel
theorem dX9_isPlayed_69 : decode cX9_isPlayed 69 = .ok (.iload_n 2, 1) := by decide +kernel
theorem dX9_isPlayed_70 : decode cX9_isPlayed 70 = .ok (.iload_n 3, 1) := by decide +kernel
theorem dX9_isPlayed_71 : decode cX9_isPlayed 71 = .ok (.invokevirtual 400, 3) := by decide +kernel
theorem dX9_isPlayed_74 : decode cX9_isPlayed 74 = .ok (.ifCond .lt 7, 3) := by decide +kernel
theorem dX9_isPlayed_77 : decode cX9_isPlayed 77 = .ok (.iconst 1, 1) := by decide +kernel
theorem dX9_isPlayed_78 : decode cX9_isPlayed 78 = .ok (.goto 4, 3) := by decide +kernel
theorem dX9_isPlayed_81 : decode cX9_isPlayed 81 = .ok (.iconst 0, 1) := by decide +kernel
theorem dX9_isPlayed_82 : decode cX9_isPlayed 82 = .ok (.ireturn, 1) := by decide +kernel
theorem dX9_isPlayed_83 : decode cX9_isPlayed 83 = .ok (.aload_n 0, 1) := by decide +kernel
theorem dX9_isPlayed_84 : decode cX9_isPlayed 84 = .ok (.iload_n 2, 1) := by decide +kernel
theorem dX9_isPlayed_85 : decode cX9_isPlayed 85 = .ok (.iload_n 3, 1) := by decide +kernel
theorem dX9_isPlayed_86 : decode cX9_isPlayed 86 = .ok (.invokevirtual 403, 3) := by decide +kernel
theorem dX9_isPlayed_89 : decode cX9_isPlayed 89 = .ok (.ifCond .lt 7, 3) := by decide +kernel
theorem dX9_isPlayed_92 : decode cX9_isPlayed 92 = .ok (.iconst 1, 1) := by decide +kernel
theorem dX9_isPlayed_93 : decode cX9_isPlayed 93 = .ok (.goto 4, 3) := by decide +kernel
theorem dX9_isPlayed_96 : decode cX9_isPlayed 96 = .ok (.iconst 0, 1) := by decide +kernel
theorem dX9_isPlayed_97 : decode cX9_isPlayed 97 = .ok (.ireturn, 1) := by decide +kernel
theorem dX9_isPlayed_98 : decode cX9_isPlayed 98 = .ok (.aload_n 0, 1) := by decide +kernel
theorem dX9_isPlayed_99 : decode cX9_isPlayed 99 = .ok (.iload_n 2, 1) := by decide +kernel
theorem dX9_isPlayed_100 : decode cX9_isPlayed 100 = .ok (.iload_n 3, 1) := by decide +kernel
theorem dX9_isPlayed_101 : decode cX9_isPlayed 101 = .ok (.iconst 1, 1) := by decide +kernel
theorem dX9_isPlayed_102 : decode cX9_isPlayed 102 = .ok (.if_icmp .ne 7, 3) := by decide +kernel
theorem dX9_isPlayed_105 : decode cX9_isPlayed 105 = .ok (.iconst 1, 1) := by decide +kernel
theorem dX9_isPlayed_106 : decode cX9_isPlayed 106 = .ok (.goto 4, 3) := by decide +kernel
theorem dX9_isPlayed_109 : decode cX9_isPlayed 109 = .ok (.iconst 0, 1) := by decide +kernel
theorem dX9_isPlayed_110 : decode cX9_isPlayed 110 = .ok (.aload_n 0, 1) := by decide +kernel
theorem dX9_isPlayed_111 : decode cX9_isPlayed 111 = .ok (.getfield 16, 3) := by decide +kernel
theorem dX9_isPlayed_114 : decode cX9_isPlayed 114 = .ok (.iload_n 1, 1) := by decide +kernel
theorem dX9_isPlayed_115 : decode cX9_isPlayed 115 = .ok (.iconst 3, 1) := by decide +kernel
theorem dX9_isPlayed_116 : decode cX9_isPlayed 116 = .ok (.iadd, 1) := by decide +kernel
theorem dX9_isPlayed_117 : decode cX9_isPlayed 117 = .ok (.iaload, 1) := by decide +kernel
theorem dX9_isPlayed_118 : decode cX9_isPlayed 118 = .ok (.aload_n 0, 1) := by decide +kernel
theorem dX9_isPlayed_119 : decode cX9_isPlayed 119 = .ok (.getfield 16, 3) := by decide +kernel
theorem dX9_isPlayed_122 : decode cX9_isPlayed 122 = .ok (.iload_n 1, 1) := by decide +kernel
theorem dX9_isPlayed_123 : decode cX9_isPlayed 123 = .ok (.iconst 4, 1) := by decide +kernel
theorem dX9_isPlayed_124 : decode cX9_isPlayed 124 = .ok (.iadd, 1) := by decide +kernel
theorem dX9_isPlayed_125 : decode cX9_isPlayed 125 = .ok (.iaload, 1) := by decide +kernel
theorem dX9_isPlayed_126 : decode cX9_isPlayed 126 = .ok (.aload_n 0, 1) := by decide +kernel
theorem dX9_isPlayed_127 : decode cX9_isPlayed 127 = .ok (.getfield 16, 3) := by decide +kernel
theorem dX9_isPlayed_130 : decode cX9_isPlayed 130 = .ok (.iload_n 1, 1) := by decide +kernel
theorem dX9_isPlayed_131 : decode cX9_isPlayed 131 = .ok (.iconst 5, 1) := by decide +kernel
theorem dX9_isPlayed_132 : decode cX9_isPlayed 132 = .ok (.iadd, 1) := by decide +kernel
theorem dX9_isPlayed_133 : decode cX9_isPlayed 133 = .ok (.iaload, 1) := by decide +kernel
theorem dX9_isPlayed_134 : decode cX9_isPlayed 134 = .ok (.invokevirtual 406, 3) := by decide +kernel
theorem dX9_isPlayed_137 : decode cX9_isPlayed 137 = .ok (.ifCond .lt 7, 3) := by decide +kernel
theorem dX9_isPlayed_140 : decode cX9_isPlayed 140 = .ok (.iconst 1, 1) := by decide +kernel
theorem dX9_isPlayed_141 : decode cX9_isPlayed 141 = .ok (.goto 4, 3) := by decide +kernel
theorem dX9_isPlayed_144 : decode cX9_isPlayed 144 = .ok (.iconst 0, 1) := by decide +kernel
theorem dX9_isPlayed_145 : decode cX9_isPlayed 145 = .ok (.ireturn, 1) := by decide +kernel
theorem dX9_isPlayed_146 : decode cX9_isPlayed 146 = .ok (.aload_n 0, 1) := by decide +kernel
theorem dX9_isPlayed_147 : decode cX9_isPlayed 147 = .ok (.iload_n 3, 1) := by decide +kernel
theorem dX9_isPlayed_148 : decode cX9_isPlayed 148 = .ok (.iload_n 2, 1) := by decide +kernel
theorem dX9_isPlayed_149 : decode cX9_isPlayed 149 = .ok (.invokevirtual 410, 3) := by decide +kernel
theorem dX9_isPlayed_152 : decode cX9_isPlayed 152 = .ok (.ireturn, 1) := by decide +kernel
theorem dX9_isPlayed_153 : decode cX9_isPlayed 153 = .ok (.aload_n 0, 1) := by decide +kernel
theorem dX9_isPlayed_154 : decode cX9_isPlayed 154 = .ok (.iload_n 3, 1) := by decide +kernel
theorem dX9_isPlayed_155 : decode cX9_isPlayed 155 = .ok (.iload_n 2, 1) := by decide +kernel
theorem dX9_isPlayed_156 : decode cX9_isPlayed 156 = .ok (.invokevirtual 413, 3) := by decide +kernel
theorem dX9_isPlayed_159 : decode cX9_isPlayed 159 = .ok (.ireturn, 1) := by decide +kernel
theorem dX9_isPlayed_160 : decode cX9_isPlayed 160 = .ok (.aload_n 0, 1) := by decide +kernel
theorem dX9_isPlayed_161 : decode cX9_isPlayed 161 = .ok (.iload_n 2, 1) := by decide +kernel
theorem dX9_isPlayed_162 : decode cX9_isPlayed 162 = .ok (.iload_n 3, 1) := by decide +kernel
theorem dX9_isPlayed_163 : decode cX9_isPlayed 163 = .ok (.aload_n 0, 1) := by decide +kernel
theorem dX9_isPlayed_164 : decode cX9_isPlayed 164 = .ok (.getfield 16, 3) := by decide +kernel
theorem dX9_isPlayed_167 : decode cX9_isPlayed 167 = .ok (.iload_n 1, 1) := by decide +kernel
theorem dX9_isPlayed_168 : decode cX9_isPlayed 168 = .ok (.iconst 3, 1) := by decide +kernel
theorem dX9_isPlayed_169 : decode cX9_isPlayed 169 = .ok (.iadd, 1) := by decide +kernel
theorem dX9_isPlayed_170 : decode cX9_isPlayed 170 = .ok (.iaload, 1) := by decide +kernel
theorem dX9_isPlayed_171 : decode cX9_isPlayed 171 = .ok (.invokevirtual 416, 3) := by decide +kernel
theorem dX9_isPlayed_174 : decode cX9_isPlayed 174 = .ok (.ireturn, 1) := by decide +kernel
theorem dX9_isPlayed_175 : decode cX9_isPlayed 175 = .ok (.aload_n 0, 1) := by decide +kernel
theorem dX9_isPlayed_176 : decode cX9_isPlayed 176 = .ok (.iload_n 2, 1) := by decide +kernel
theorem dX9_isPlayed_177 : decode cX9_isPlayed 177 = .ok (.invokevirtual 397, 3) := by decide +kernel
theorem dX9_isPlayed_180 : decode cX9_isPlayed 180 = .ok (.ireturn, 1) := by decide +kernel
theorem dX9_isPlayed_181 : decode cX9_isPlayed 181 = .ok (.iconst 1, 1) := by decide +kernel
theorem dX9_isPlayed_182 : decode cX9_isPlayed 182 = .ok (.ireturn, 1) := by decide +kernel
theorem dX9_played_0 : decode cX9_played 0 = .ok (.iload_n 1, 1) := by decide +kernel
theorem dX9_played_1 : decode cX9_played 1 = .ok (.iconst 0, 1) := by decide +kernel
theorem dX9_played_2 : decode cX9_played 2 = .ok (.aload_n 0, 1) := by decide +kernel
theorem dX9_played_3 : decode cX9_played 3 = .ok (.getfield 7, 3) := by decide +kernel
theorem dX9_played_6 : decode cX9_played 6 = .ok (.iconst 2, 1) := by decide +kernel
theorem dX9_played_7 : decode cX9_played 7 = .ok (.iaload, 1) := by decide +kernel
theorem dX9_played_8 : decode cX9_played 8 = .ok (.iconst 1, 1) := by decide +kernel
theorem dX9_played_9 : decode cX9_played 9 = .ok (.isub, 1) := by decide +kernel
theorem dX9_played_10 : decode cX9_played 10 = .ok (.invokestatic 63, 3) := by decide +kernel
theorem dX9_played_13 : decode cX9_played 13 = .ok (.ifCond .ne 6, 3) := by decide +kernel
theorem dX9_played_16 : decode cX9_played 16 = .ok (.bipush (-2), 2) := by decide +kernel
theorem dX9_played_18 : decode cX9_played 18 = .ok (.ireturn, 1) := by decide +kernel
theorem dX9_played_19 : decode cX9_played 19 = .ok (.iconst 0, 1) := by decide +kernel
theorem dX9_played_20 : decode cX9_played 20 = .ok (.istore_n 2, 1) := by decide +kernel
theorem dX9_played_21 : decode cX9_played 21 = .ok (.iload_n 2, 1) := by decide +kernel
theorem dX9_played_22 : decode cX9_played 22 = .ok (.aload_n 0, 1) := by decide +kernel
theorem dX9_played_23 : decode cX9_played 23 = .ok (.getfield 16, 3) := by decide +kernel
theorem dX9_played_26 : decode cX9_played 26 = .ok (.sipush 753, 3) := by decide +kernel
theorem dX9_played_29 : decode cX9_played 29 = .ok (.iload_n 1, 1) := by decide +kernel
theorem dX9_played_30 : decode cX9_played 30 = .ok (.imul, 1) := by decide +kernel
theorem dX9_played_31 : decode cX9_played 31 = .ok (.iaload, 1) := by decide +kernel
theorem dX9_played_32 : decode cX9_played 32 = .ok (.if_icmp .ge 30, 3) := by decide +kernel
theorem dX9_played_35 : decode cX9_played 35 = .ok (.aload_n 0, 1) := by decide +kernel
theorem dX9_played_36 : decode cX9_played 36 = .ok (.sipush 753, 3) := by decide +kernel
theorem dX9_played_39 : decode cX9_played 39 = .ok (.iload_n 1, 1) := by decide +kernel
theorem dX9_played_40 : decode cX9_played 40 = .ok (.imul, 1) := by decide +kernel
theorem dX9_played_41 : decode cX9_played 41 = .ok (.iconst 1, 1) := by decide +kernel
theorem dX9_played_42 : decode cX9_played 42 = .ok (.iadd, 1) := by decide +kernel
theorem dX9_played_43 : decode cX9_played 43 = .ok (.bipush 6, 2) := by decide +kernel
theorem dX9_played_45 : decode cX9_played 45 = .ok (.iload_n 2, 1) := by decide +kernel
theorem dX9_played_46 : decode cX9_played 46 = .ok (.imul, 1) := by decide +kernel
theorem dX9_played_47 : decode cX9_played 47 = .ok (.iadd, 1) := by decide +kernel
theorem dX9_played_48 : decode cX9_played 48 = .ok (.invokevirtual 419, 3) := by decide +kernel
theorem dX9_played_51 : decode cX9_played 51 = .ok (.ifCond .ne 5, 3) := by decide +kernel
theorem dX9_played_54 : decode cX9_played 54 = .ok (.iload_n 2, 1) := by decide +kernel
theorem dX9_played_55 : decode cX9_played 55 = .ok (.ireturn, 1) := by decide +kernel
theorem dX9_played_56 : decode cX9_played 56 = .ok (.iinc 2 1, 3) := by decide +kernel
theorem dX9_played_59 : decode cX9_played 59 = .ok (.goto (-38), 3) := by decide +kernel
theorem dX9_played_62 : decode cX9_played 62 = .ok (.iconst (-1), 1) := by decide +kernel
theorem dX9_played_63 : decode cX9_played 63 = .ok (.ireturn, 1) := by decide +kernel
theorem dX9_happens_0 : decode cX9_happens 0 = .ok (.iload_n 1, 1) := by decide +kernel
theorem dX9_happens_1 : decode cX9_happens 1 = .ok (.bipush 6, 2) := by decide +kernel
theorem dX9_happens_3 : decode cX9_happens 3 = .ok (.irem, 1) := by decide +kernel
theorem dX9_happens_4 : decode cX9_happens 4 = .ok (.iconst 3, 1) := by decide +kernel
theorem dX9_happens_5 : decode cX9_happens 5 = .ok (.if_icmp .le 21, 3) := by decide +kernel
theorem dX9_happens_8 : decode cX9_happens 8 = .ok (.aload_n 0, 1) := by decide +kernel
theorem dX9_happens_9 : decode cX9_happens 9 = .ok (.getfield 7, 3) := by decide +kernel
theorem dX9_happens_12 : decode cX9_happens 12 = .ok (.bipush 8, 2) := by decide +kernel
theorem dX9_happens_14 : decode cX9_happens 14 = .ok (.iaload, 1) := by decide +kernel
theorem dX9_happens_15 : decode cX9_happens 15 = .ok (.sipush 9999, 3) := by decide +kernel
theorem dX9_happens_18 : decode cX9_happens 18 = .ok (.if_icmp .ge 7, 3) := by decide +kernel
theorem dX9_happens_21 : decode cX9_happens 21 = .ok (.aload_n 0, 1) := by decide +kernel
theorem dX9_happens_22 : decode cX9_happens 22 = .ok (.invokevirtual 394, 3) := by decide +kernel
theorem dX9_happens_25 : decode cX9_happens 25 = .ok (.return_, 1) := by decide +kernel
theorem dX9_happens_26 : decode cX9_happens 26 = .ok (.aload_n 0, 1) := by decide +kernel
theorem dX9_happens_27 : decode cX9_happens 27 = .ok (.getfield 7, 3) := by decide +kernel
theorem dX9_happens_30 : decode cX9_happens 30 = .ok (.iconst 1, 1) := by decide +kernel
theorem dX9_happens_31 : decode cX9_happens 31 = .ok (.iaload, 1) := by decide +kernel
theorem dX9_happens_32 : decode cX9_happens 32 = .ok (.ifCond .eq 12, 3) := by decide +kernel
theorem dX9_happens_35 : decode cX9_happens 35 = .ok (.aload_n 0, 1) := by decide +kernel
theorem dX9_happens_36 : decode cX9_happens 36 = .ok (.getfield 7, 3) := by decide +kernel
theorem dX9_happens_39 : decode cX9_happens 39 = .ok (.iconst 0, 1) := by decide +kernel
theorem dX9_happens_40 : decode cX9_happens 40 = .ok (.iaload, 1) := by decide +kernel
theorem dX9_happens_41 : decode cX9_happens 41 = .ok (.ifCond .ne 4, 3) := by decide +kernel
theorem dX9_happens_44 : decode cX9_happens 44 = .ok (.return_, 1) := by decide +kernel
theorem dX9_happens_45 : decode cX9_happens 45 = .ok (.iload_n 1, 1) := by decide +kernel
theorem dX9_happens_46 : decode cX9_happens 46 = .ok (.aload_n 0, 1) := by decide +kernel
theorem dX9_happens_47 : decode cX9_happens 47 = .ok (.getfield 7, 3) := by decide +kernel
theorem dX9_happens_50 : decode cX9_happens 50 = .ok (.iconst 1, 1) := by decide +kernel
theorem dX9_happens_51 : decode cX9_happens 51 = .ok (.iaload, 1) := by decide +kernel
theorem dX9_happens_52 : decode cX9_happens 52 = .ok (.irem, 1) := by decide +kernel
theorem dX9_happens_53 : decode cX9_happens 53 = .ok (.istore_n 2, 1) := by decide +kernel
theorem dX9_happens_54 : decode cX9_happens 54 = .ok (.iload_n 1, 1) := by decide +kernel
theorem dX9_happens_55 : decode cX9_happens 55 = .ok (.bipush 6, 2) := by decide +kernel
theorem dX9_happens_57 : decode cX9_happens 57 = .ok (.idiv, 1) := by decide +kernel
theorem dX9_happens_58 : decode cX9_happens 58 = .ok (.aload_n 0, 1) := by decide +kernel
theorem dX9_happens_59 : decode cX9_happens 59 = .ok (.getfield 7, 3) := by decide +kernel
theorem dX9_happens_62 : decode cX9_happens 62 = .ok (.iconst 0, 1) := by decide +kernel
theorem dX9_happens_63 : decode cX9_happens 63 = .ok (.iaload, 1) := by decide +kernel
theorem dX9_happens_64 : decode cX9_happens 64 = .ok (.irem, 1) := by decide +kernel
theorem dX9_happens_65 : decode cX9_happens 65 = .ok (.istore_n 3, 1) := by decide +kernel
theorem dX9_happens_66 : decode cX9_happens 66 = .ok (.iload_n 1, 1) := by decide +kernel
theorem dX9_happens_67 : decode cX9_happens 67 = .ok (.bipush 6, 2) := by decide +kernel
theorem dX9_happens_69 : decode cX9_happens 69 = .ok (.irem, 1) := by decide +kernel
theorem dX9_happens_70 : decode cX9_happens 70 = .ok (.iconst 2, 1) := by decide +kernel
theorem dX9_happens_71 : decode cX9_happens 71 = .ok (.if_icmp .ge 54, 3) := by decide +kernel
theorem dX9_happens_74 : decode cX9_happens 74 = .ok (.aload_n 0, 1) := by decide +kernel
theorem dX9_happens_75 : decode cX9_happens 75 = .ok (.iload_n 2, 1) := by decide +kernel
theorem dX9_happens_76 : decode cX9_happens 76 = .ok (.invokevirtual 368, 3) := by decide +kernel
theorem dX9_happens_79 : decode cX9_happens 79 = .ok (.ifCond .eq 95, 3) := by decide +kernel
theorem dX9_happens_82 : decode cX9_happens 82 = .ok (.aload_n 0, 1) := by decide +kernel
theorem dX9_happens_83 : decode cX9_happens 83 = .ok (.iload_n 2, 1) := by decide +kernel
theorem dX9_happens_84 : decode cX9_happens 84 = .ok (.iload_n 1, 1) := by decide +kernel
theorem dX9_happens_85 : decode cX9_happens 85 = .ok (.iconst 4, 1) := by decide +kernel
theorem dX9_happens_86 : decode cX9_happens 86 = .ok (.irem, 1) := by decide +kernel
theorem dX9_happens_87 : decode cX9_happens 87 = .ok (.ifCond .ne 7, 3) := by decide +kernel
theorem dX9_happens_90 : decode cX9_happens 90 = .ok (.iconst 1, 1) := by decide +kernel
theorem dX9_happens_91 : decode cX9_happens 91 = .ok (.goto 4, 3) := by decide +kernel
theorem dX9_happens_94 : decode cX9_happens 94 = .ok (.iconst 0, 1) := by decide +kernel
theorem dX9_happens_95 : decode cX9_happens 95 = .ok (.iconst 1, 1) := by decide +kernel
theorem dX9_happens_96 : decode cX9_happens 96 = .ok (.iload_n 1, 1) := by decide +kernel
theorem dX9_happens_97 : decode cX9_happens 97 = .ok (.aload_n 0, 1) := by decide +kernel
theorem dX9_happens_98 : decode cX9_happens 98 = .ok (.getfield 7, 3) := by decide +kernel
theorem dX9_happens_101 : decode cX9_happens 101 = .ok (.iconst 0, 1) := by decide +kernel
theorem dX9_happens_102 : decode cX9_happens 102 = .ok (.iaload, 1) := by decide +kernel
theorem dX9_happens_103 : decode cX9_happens 103 = .ok (.irem, 1) := by decide +kernel
theorem dX9_happens_104 : decode cX9_happens 104 = .ok (.ishl, 1) := by decide +kernel
theorem dX9_happens_105 : decode cX9_happens 105 = .ok (.iconst 1, 1) := by decide +kernel
theorem dX9_happens_106 : decode cX9_happens 106 = .ok (.iload_n 3, 1) := by decide +kernel
theorem dX9_happens_107 : decode cX9_happens 107 = .ok (.ishl, 1) := by decide +kernel
theorem dX9_happens_108 : decode cX9_happens 108 = .ok (.ior, 1) := by decide +kernel
theorem dX9_happens_109 : decode cX9_happens 109 = .ok (.iconst 1, 1) := by decide +kernel
theorem dX9_happens_110 : decode cX9_happens 110 = .ok (.iload_n 1, 1) := by decide +kernel
theorem dX9_happens_111 : decode cX9_happens 111 = .ok (.bipush 9, 2) := by decide +kernel
theorem dX9_happens_113 : decode cX9_happens 113 = .ok (.irem, 1) := by decide +kernel
theorem dX9_happens_114 : decode cX9_happens 114 = .ok (.iadd, 1) := by decide +kernel
theorem dX9_happens_115 : decode cX9_happens 115 = .ok (.iload_n 1, 1) := by decide +kernel
theorem dX9_happens_116 : decode cX9_happens 116 = .ok (.bipush 50, 2) := by decide +kernel
theorem dX9_happens_118 : decode cX9_happens 118 = .ok (.irem, 1) := by decide +kernel
theorem dX9_happens_119 : decode cX9_happens 119 = .ok (.invokevirtual 377, 3) := by decide +kernel
theorem dX9_happens_122 : decode cX9_happens 122 = .ok (.goto 52, 3) := by decide +kernel
theorem dX9_happens_125 : decode cX9_happens 125 = .ok (.iload_n 1, 1) := by decide +kernel
theorem dX9_happens_126 : decode cX9_happens 126 = .ok (.bipush 6, 2) := by decide +kernel
theorem dX9_happens_128 : decode cX9_happens 128 = .ok (.irem, 1) := by decide +kernel
theorem dX9_happens_129 : decode cX9_happens 129 = .ok (.iconst 2, 1) := by decide +kernel
theorem dX9_happens_130 : decode cX9_happens 130 = .ok (.if_icmp .ne 22, 3) := by decide +kernel
theorem dX9_happens_133 : decode cX9_happens 133 = .ok (.aload_n 0, 1) := by decide +kernel
theorem dX9_happens_134 : decode cX9_happens 134 = .ok (.iload_n 2, 1) := by decide +kernel
theorem dX9_happens_135 : decode cX9_happens 135 = .ok (.iload_n 3, 1) := by decide +kernel
theorem dX9_happens_136 : decode cX9_happens 136 = .ok (.iconst 0, 1) := by decide +kernel
theorem dX9_happens_137 : decode cX9_happens 137 = .ok (.invokevirtual 384, 3) := by decide +kernel
theorem dX9_happens_140 : decode cX9_happens 140 = .ok (.ifCond .eq 34, 3) := by decide +kernel
theorem dX9_happens_143 : decode cX9_happens 143 = .ok (.aload_n 0, 1) := by decide +kernel
theorem dX9_happens_144 : decode cX9_happens 144 = .ok (.iload_n 2, 1) := by decide +kernel
theorem dX9_happens_145 : decode cX9_happens 145 = .ok (.iload_n 3, 1) := by decide +kernel
theorem dX9_happens_146 : decode cX9_happens 146 = .ok (.invokevirtual 388, 3) := by decide +kernel
theorem dX9_happens_149 : decode cX9_happens 149 = .ok (.goto 25, 3) := by decide +kernel
theorem dX9_happens_152 : decode cX9_happens 152 = .ok (.iload_n 1, 1) := by decide +kernel
theorem dX9_happens_153 : decode cX9_happens 153 = .ok (.iconst 5, 1) := by decide +kernel
theorem dX9_happens_154 : decode cX9_happens 154 = .ok (.irem, 1) := by decide +kernel
theorem dX9_happens_155 : decode cX9_happens 155 = .ok (.ifCond .ne 19, 3) := by decide +kernel
theorem dX9_happens_158 : decode cX9_happens 158 = .ok (.aload_n 0, 1) := by decide +kernel
theorem dX9_happens_159 : decode cX9_happens 159 = .ok (.iload_n 2, 1) := by decide +kernel
theorem dX9_happens_160 : decode cX9_happens 160 = .ok (.iload_n 3, 1) := by decide +kernel
theorem dX9_happens_161 : decode cX9_happens 161 = .ok (.iconst 1, 1) := by decide +kernel
theorem dX9_happens_162 : decode cX9_happens 162 = .ok (.invokevirtual 384, 3) := by decide +kernel
theorem dX9_happens_165 : decode cX9_happens 165 = .ok (.ifCond .eq 9, 3) := by decide +kernel
theorem dX9_happens_168 : decode cX9_happens 168 = .ok (.aload_n 0, 1) := by decide +kernel
theorem dX9_happens_169 : decode cX9_happens 169 = .ok (.iload_n 2, 1) := by decide +kernel
theorem dX9_happens_170 : decode cX9_happens 170 = .ok (.iload_n 3, 1) := by decide +kernel
theorem dX9_happens_171 : decode cX9_happens 171 = .ok (.invokevirtual 388, 3) := by decide +kernel
theorem dX9_happens_174 : decode cX9_happens 174 = .ok (.return_, 1) := by decide +kernel
theorem dX9_years_0 : decode cX9_years 0 = .ok (.iload_n 1, 1) := by decide +kernel
theorem dX9_years_1 : decode cX9_years 1 = .ok (.iconst 0, 1) := by decide +kernel
theorem dX9_years_2 : decode cX9_years 2 = .ok (.sipush 9999, 3) := by decide +kernel
theorem dX9_years_5 : decode cX9_years 5 = .ok (.invokestatic 63, 3) := by decide +kernel
theorem dX9_years_8 : decode cX9_years 8 = .ok (.ifCond .eq 13, 3) := by decide +kernel
theorem dX9_years_11 : decode cX9_years 11 = .ok (.iload_n 2, 1) := by decide +kernel
theorem dX9_years_12 : decode cX9_years 12 = .ok (.iconst 1, 1) := by decide +kernel
theorem dX9_years_13 : decode cX9_years 13 = .ok (.bipush 40, 2) := by decide +kernel
theorem dX9_years_15 : decode cX9_years 15 = .ok (.invokestatic 63, 3) := by decide +kernel
theorem dX9_years_18 : decode cX9_years 18 = .ok (.ifCond .ne 5, 3) := by decide +kernel
theorem dX9_years_21 : decode cX9_years 21 = .ok (.iconst (-1), 1) := by decide +kernel
theorem dX9_years_22 : decode cX9_years 22 = .ok (.ireturn, 1) := by decide +kernel
theorem dX9_years_23 : decode cX9_years 23 = .ok (.aload_n 0, 1) := by decide +kernel
theorem dX9_years_24 : decode cX9_years 24 = .ok (.invokevirtual 374, 3) := by decide +kernel
theorem dX9_years_27 : decode cX9_years 27 = .ok (.aload_n 0, 1) := by decide +kernel
theorem dX9_years_28 : decode cX9_years 28 = .ok (.getfield 7, 3) := by decide +kernel
theorem dX9_years_31 : decode cX9_years 31 = .ok (.bipush 9, 2) := by decide +kernel
theorem dX9_years_33 : decode cX9_years 33 = .ok (.iload_n 1, 1) := by decide +kernel
theorem dX9_years_34 : decode cX9_years 34 = .ok (.iconst 2, 1) := by decide +kernel
theorem dX9_years_35 : decode cX9_years 35 = .ok (.imul, 1) := by decide +kernel
theorem dX9_years_36 : decode cX9_years 36 = .ok (.sipush 191, 3) := by decide +kernel
theorem dX9_years_39 : decode cX9_years 39 = .ok (.iadd, 1) := by decide +kernel
theorem dX9_years_40 : decode cX9_years 40 = .ok (.iastore, 1) := by decide +kernel
theorem dX9_years_41 : decode cX9_years 41 = .ok (.iconst 0, 1) := by decide +kernel
theorem dX9_years_42 : decode cX9_years 42 = .ok (.istore_n 3, 1) := by decide +kernel
theorem dX9_years_43 : decode cX9_years 43 = .ok (.iload_n 3, 1) := by decide +kernel
theorem dX9_years_44 : decode cX9_years 44 = .ok (.iload_n 2, 1) := by decide +kernel
theorem dX9_years_45 : decode cX9_years 45 = .ok (.if_icmp .ge 28, 3) := by decide +kernel
theorem dX9_years_48 : decode cX9_years 48 = .ok (.aload_n 0, 1) := by decide +kernel
theorem dX9_years_49 : decode cX9_years 49 = .ok (.getfield 7, 3) := by decide +kernel
theorem dX9_years_52 : decode cX9_years 52 = .ok (.bipush 9, 2) := by decide +kernel
theorem dX9_years_54 : decode cX9_years 54 = .ok (.iaload, 1) := by decide +kernel
theorem dX9_years_55 : decode cX9_years 55 = .ok (.istore 4, 2) := by decide +kernel
theorem dX9_years_57 : decode cX9_years 57 = .ok (.aload_n 0, 1) := by decide +kernel
theorem dX9_years_58 : decode cX9_years 58 = .ok (.invokevirtual 320, 3) := by decide +kernel
theorem dX9_years_61 : decode cX9_years 61 = .ok (.aload_n 0, 1) := by decide +kernel
theorem dX9_years_62 : decode cX9_years 62 = .ok (.iload 4, 2) := by decide +kernel
theorem dX9_years_64 : decode cX9_years 64 = .ok (.invokevirtual 422, 3) := by decide +kernel
theorem dX9_years_67 : decode cX9_years 67 = .ok (.iinc 3 1, 3) := by decide +kernel
theorem dX9_years_70 : decode cX9_years 70 = .ok (.goto (-27), 3) := by decide +kernel
theorem dX9_years_73 : decode cX9_years 73 = .ok (.aload_n 0, 1) := by decide +kernel
theorem dX9_years_74 : decode cX9_years 74 = .ok (.getfield 7, 3) := by decide +kernel
theorem dX9_years_77 : decode cX9_years 77 = .ok (.bipush 8, 2) := by decide +kernel
theorem dX9_years_79 : decode cX9_years 79 = .ok (.iaload, 1) := by decide +kernel
theorem dX9_years_80 : decode cX9_years 80 = .ok (.ireturn, 1) := by decide +kernel
theorem dX9_openOf_0 : decode cX9_openOf 0 = .ok (.iconst 0, 1) := by decide +kernel
theorem dX9_openOf_1 : decode cX9_openOf 1 = .ok (.istore_n 2, 1) := by decide +kernel
theorem dX9_openOf_2 : decode cX9_openOf 2 = .ok (.iconst 0, 1) := by decide +kernel
theorem dX9_openOf_3 : decode cX9_openOf 3 = .ok (.istore_n 3, 1) := by decide +kernel
theorem dX9_openOf_4 : decode cX9_openOf 4 = .ok (.iload_n 3, 1) := by decide +kernel
theorem dX9_openOf_5 : decode cX9_openOf 5 = .ok (.aload_n 0, 1) := by decide +kernel
theorem dX9_openOf_6 : decode cX9_openOf 6 = .ok (.getfield 7, 3) := by decide +kernel
theorem dX9_openOf_9 : decode cX9_openOf 9 = .ok (.bipush 11, 2) := by decide +kernel
theorem dX9_openOf_11 : decode cX9_openOf 11 = .ok (.iaload, 1) := by decide +kernel
theorem dX9_openOf_12 : decode cX9_openOf 12 = .ok (.if_icmp .ge 35, 3) := by decide +kernel
theorem dX9_openOf_15 : decode cX9_openOf 15 = .ok (.iload_n 2, 1) := by decide +kernel
theorem dX9_openOf_16 : decode cX9_openOf 16 = .ok (.aload_n 0, 1) := by decide +kernel
theorem dX9_openOf_17 : decode cX9_openOf 17 = .ok (.iload_n 3, 1) := by decide +kernel
theorem dX9_openOf_18 : decode cX9_openOf 18 = .ok (.invokevirtual 353, 3) := by decide +kernel
theorem dX9_openOf_21 : decode cX9_openOf 21 = .ok (.ifCond .eq 17, 3) := by decide +kernel
theorem dX9_openOf_24 : decode cX9_openOf 24 = .ok (.aload_n 0, 1) := by decide +kernel
theorem dX9_openOf_25 : decode cX9_openOf 25 = .ok (.iload_n 3, 1) := by decide +kernel
theorem dX9_openOf_26 : decode cX9_openOf 26 = .ok (.iconst 0, 1) := by decide +kernel
theorem dX9_openOf_27 : decode cX9_openOf 27 = .ok (.invokevirtual 67, 3) := by decide +kernel
theorem dX9_openOf_30 : decode cX9_openOf 30 = .ok (.iload_n 1, 1) := by decide +kernel
theorem dX9_openOf_31 : decode cX9_openOf 31 = .ok (.if_icmp .ne 7, 3) := by decide +kernel
theorem dX9_openOf_34 : decode cX9_openOf 34 = .ok (.iconst 1, 1) := by decide +kernel
theorem dX9_openOf_35 : decode cX9_openOf 35 = .ok (.goto 4, 3) := by decide +kernel
theorem dX9_openOf_38 : decode cX9_openOf 38 = .ok (.iconst 0, 1) := by decide +kernel
theorem dX9_openOf_39 : decode cX9_openOf 39 = .ok (.iadd, 1) := by decide +kernel
theorem dX9_openOf_40 : decode cX9_openOf 40 = .ok (.istore_n 2, 1) := by decide +kernel
theorem dX9_openOf_41 : decode cX9_openOf 41 = .ok (.iinc 3 1, 3) := by decide +kernel
theorem dX9_openOf_44 : decode cX9_openOf 44 = .ok (.goto (-40), 3) := by decide +kernel
theorem dX9_openOf_47 : decode cX9_openOf 47 = .ok (.iload_n 2, 1) := by decide +kernel
theorem dX9_openOf_48 : decode cX9_openOf 48 = .ok (.ireturn, 1) := by decide +kernel
theorem dX9_owesOf_0 : decode cX9_owesOf 0 = .ok (.iconst 0, 1) := by decide +kernel
theorem dX9_owesOf_1 : decode cX9_owesOf 1 = .ok (.istore_n 2, 1) := by decide +kernel
theorem dX9_owesOf_2 : decode cX9_owesOf 2 = .ok (.iconst 0, 1) := by decide +kernel
theorem dX9_owesOf_3 : decode cX9_owesOf 3 = .ok (.istore_n 3, 1) := by decide +kernel
theorem dX9_owesOf_4 : decode cX9_owesOf 4 = .ok (.iload_n 3, 1) := by decide +kernel
theorem dX9_owesOf_5 : decode cX9_owesOf 5 = .ok (.aload_n 0, 1) := by decide +kernel
theorem dX9_owesOf_6 : decode cX9_owesOf 6 = .ok (.getfield 7, 3) := by decide +kernel
theorem dX9_owesOf_9 : decode cX9_owesOf 9 = .ok (.bipush 11, 2) := by decide +kernel
theorem dX9_owesOf_11 : decode cX9_owesOf 11 = .ok (.iaload, 1) := by decide +kernel
theorem dX9_owesOf_12 : decode cX9_owesOf 12 = .ok (.if_icmp .ge 45, 3) := by decide +kernel
theorem dX9_owesOf_15 : decode cX9_owesOf 15 = .ok (.iload_n 2, 1) := by decide +kernel
theorem dX9_owesOf_16 : decode cX9_owesOf 16 = .ok (.aload_n 0, 1) := by decide +kernel
theorem dX9_owesOf_17 : decode cX9_owesOf 17 = .ok (.iload_n 3, 1) := by decide +kernel
theorem dX9_owesOf_18 : decode cX9_owesOf 18 = .ok (.invokevirtual 353, 3) := by decide +kernel
theorem dX9_owesOf_21 : decode cX9_owesOf 21 = .ok (.ifCond .eq 27, 3) := by decide +kernel
theorem dX9_owesOf_24 : decode cX9_owesOf 24 = .ok (.aload_n 0, 1) := by decide +kernel
theorem dX9_owesOf_25 : decode cX9_owesOf 25 = .ok (.iload_n 3, 1) := by decide +kernel
theorem dX9_owesOf_26 : decode cX9_owesOf 26 = .ok (.iconst 0, 1) := by decide +kernel
theorem dX9_owesOf_27 : decode cX9_owesOf 27 = .ok (.invokevirtual 67, 3) := by decide +kernel
theorem dX9_owesOf_30 : decode cX9_owesOf 30 = .ok (.iload_n 1, 1) := by decide +kernel
theorem dX9_owesOf_31 : decode cX9_owesOf 31 = .ok (.if_icmp .ne 17, 3) := by decide +kernel
theorem dX9_owesOf_34 : decode cX9_owesOf 34 = .ok (.aload_n 0, 1) := by decide +kernel
theorem dX9_owesOf_35 : decode cX9_owesOf 35 = .ok (.aload_n 0, 1) := by decide +kernel
theorem dX9_owesOf_36 : decode cX9_owesOf 36 = .ok (.getfield 7, 3) := by decide +kernel
theorem dX9_owesOf_39 : decode cX9_owesOf 39 = .ok (.iconst 3, 1) := by decide +kernel
theorem dX9_owesOf_40 : decode cX9_owesOf 40 = .ok (.iaload, 1) := by decide +kernel
theorem dX9_owesOf_41 : decode cX9_owesOf 41 = .ok (.iload_n 3, 1) := by decide +kernel
theorem dX9_owesOf_42 : decode cX9_owesOf 42 = .ok (.invokevirtual 344, 3) := by decide +kernel
theorem dX9_owesOf_45 : decode cX9_owesOf 45 = .ok (.goto 4, 3) := by decide +kernel
theorem dX9_owesOf_48 : decode cX9_owesOf 48 = .ok (.iconst 0, 1) := by decide +kernel
theorem dX9_owesOf_49 : decode cX9_owesOf 49 = .ok (.iadd, 1) := by decide +kernel
theorem dX9_owesOf_50 : decode cX9_owesOf 50 = .ok (.istore_n 2, 1) := by decide +kernel
theorem dX9_owesOf_51 : decode cX9_owesOf 51 = .ok (.iinc 3 1, 3) := by decide +kernel
theorem dX9_owesOf_54 : decode cX9_owesOf 54 = .ok (.goto (-50), 3) := by decide +kernel
theorem dX9_owesOf_57 : decode cX9_owesOf 57 = .ok (.iload_n 2, 1) := by decide +kernel
theorem dX9_owesOf_58 : decode cX9_owesOf 58 = .ok (.ireturn, 1) := by decide +kernel
theorem dX9_of_0 : decode cX9_of 0 = .ok (.aload_n 0, 1) := by decide +kernel
theorem dX9_of_1 : decode cX9_of 1 = .ok (.iload_n 1, 1) := by decide +kernel
theorem dX9_of_2 : decode cX9_of 2 = .ok (.invokevirtual 365, 3) := by decide +kernel
theorem dX9_of_5 : decode cX9_of 5 = .ok (.ifCond .ne 6, 3) := by decide +kernel
theorem dX9_of_8 : decode cX9_of 8 = .ok (.bipush (-2), 2) := by decide +kernel
theorem dX9_of_10 : decode cX9_of 10 = .ok (.ireturn, 1) := by decide +kernel
theorem dX9_of_11 : decode cX9_of 11 = .ok (.iload_n 2, 1) := by decide +kernel
theorem dX9_of_12 : decode cX9_of 12 = .ok (.lookupswitch 40 #[(3, 28), (4, 34)], 28) := by decide +kernel
theorem dX9_of_40 : decode cX9_of 40 = .ok (.aload_n 0, 1) := by decide +kernel
theorem dX9_of_41 : decode cX9_of 41 = .ok (.iload_n 1, 1) := by decide +kernel
theorem dX9_of_42 : decode cX9_of 42 = .ok (.invokevirtual 425, 3) := by decide +kernel
theorem dX9_of_45 : decode cX9_of 45 = .ok (.ireturn, 1) := by decide +kernel
theorem dX9_of_46 : decode cX9_of 46 = .ok (.aload_n 0, 1) := by decide +kernel
theorem dX9_of_47 : decode cX9_of 47 = .ok (.iload_n 1, 1) := by decide +kernel
theorem dX9_of_48 : decode cX9_of 48 = .ok (.invokevirtual 428, 3) := by decide +kernel
theorem dX9_of_51 : decode cX9_of 51 = .ok (.ireturn, 1) := by decide +kernel
theorem dX9_of_52 : decode cX9_of 52 = .ok (.iload_n 2, 1) := by decide +kernel
theorem dX9_of_53 : decode cX9_of 53 = .ok (.iconst 0, 1) := by decide +kernel
theorem dX9_of_54 : decode cX9_of 54 = .ok (.iconst 2, 1) := by decide +kernel
theorem dX9_of_55 : decode cX9_of 55 = .ok (.invokestatic 63, 3) := by decide +kernel
theorem dX9_of_58 : decode cX9_of 58 = .ok (.ifCond .eq 12, 3) := by decide +kernel
theorem dX9_of_61 : decode cX9_of 61 = .ok (.aload_n 0, 1) := by decide +kernel
theorem dX9_of_62 : decode cX9_of 62 = .ok (.iload_n 1, 1) := by decide +kernel
theorem dX9_of_63 : decode cX9_of 63 = .ok (.iload_n 2, 1) := by decide +kernel
theorem dX9_of_64 : decode cX9_of 64 = .ok (.invokevirtual 87, 3) := by decide +kernel
theorem dX9_of_67 : decode cX9_of 67 = .ok (.goto 5, 3) := by decide +kernel
theorem dX9_of_70 : decode cX9_of 70 = .ok (.bipush (-2), 2) := by decide +kernel
theorem dX9_of_72 : decode cX9_of 72 = .ok (.ireturn, 1) := by decide +kernel
theorem dX9_ofFact_0 : decode cX9_ofFact 0 = .ok (.aload_n 0, 1) := by decide +kernel
theorem dX9_ofFact_1 : decode cX9_ofFact 1 = .ok (.iload_n 1, 1) := by decide +kernel
theorem dX9_ofFact_2 : decode cX9_ofFact 2 = .ok (.invokevirtual 381, 3) := by decide +kernel
theorem dX9_ofFact_5 : decode cX9_ofFact 5 = .ok (.ifCond .ne 6, 3) := by decide +kernel
theorem dX9_ofFact_8 : decode cX9_ofFact 8 = .ok (.bipush (-2), 2) := by decide +kernel
theorem dX9_ofFact_10 : decode cX9_ofFact 10 = .ok (.ireturn, 1) := by decide +kernel
theorem dX9_ofFact_11 : decode cX9_ofFact 11 = .ok (.iload_n 2, 1) := by decide +kernel
theorem dX9_ofFact_12 : decode cX9_ofFact 12 = .ok (.iconst 0, 1) := by decide +kernel
theorem dX9_ofFact_13 : decode cX9_ofFact 13 = .ok (.iconst 1, 1) := by decide +kernel
theorem dX9_ofFact_14 : decode cX9_ofFact 14 = .ok (.invokestatic 63, 3) := by decide +kernel
theorem dX9_ofFact_17 : decode cX9_ofFact 17 = .ok (.ifCond .eq 19, 3) := by decide +kernel
theorem dX9_ofFact_20 : decode cX9_ofFact 20 = .ok (.aload_n 0, 1) := by decide +kernel
theorem dX9_ofFact_21 : decode cX9_ofFact 21 = .ok (.getfield 7, 3) := by decide +kernel
theorem dX9_ofFact_24 : decode cX9_ofFact 24 = .ok (.bipush 110, 2) := by decide +kernel
theorem dX9_ofFact_26 : decode cX9_ofFact 26 = .ok (.iconst 2, 1) := by decide +kernel
theorem dX9_ofFact_27 : decode cX9_ofFact 27 = .ok (.iload_n 1, 1) := by decide +kernel
theorem dX9_ofFact_28 : decode cX9_ofFact 28 = .ok (.imul, 1) := by decide +kernel
theorem dX9_ofFact_29 : decode cX9_ofFact 29 = .ok (.iadd, 1) := by decide +kernel
theorem dX9_ofFact_30 : decode cX9_ofFact 30 = .ok (.iload_n 2, 1) := by decide +kernel
theorem dX9_ofFact_31 : decode cX9_ofFact 31 = .ok (.iadd, 1) := by decide +kernel
theorem dX9_ofFact_32 : decode cX9_ofFact 32 = .ok (.iaload, 1) := by decide +kernel
theorem dX9_ofFact_33 : decode cX9_ofFact 33 = .ok (.goto 37, 3) := by decide +kernel
theorem dX9_ofFact_36 : decode cX9_ofFact 36 = .ok (.iload_n 2, 1) := by decide +kernel
theorem dX9_ofFact_37 : decode cX9_ofFact 37 = .ok (.iconst 2, 1) := by decide +kernel
theorem dX9_ofFact_38 : decode cX9_ofFact 38 = .ok (.if_icmp .ne 17, 3) := by decide +kernel
theorem dX9_ofFact_41 : decode cX9_ofFact 41 = .ok (.aload_n 0, 1) := by decide +kernel
theorem dX9_ofFact_42 : decode cX9_ofFact 42 = .ok (.getfield 7, 3) := by decide +kernel
theorem dX9_ofFact_45 : decode cX9_ofFact 45 = .ok (.bipush 10, 2) := by decide +kernel
theorem dX9_ofFact_47 : decode cX9_ofFact 47 = .ok (.iaload, 1) := by decide +kernel
theorem dX9_ofFact_48 : decode cX9_ofFact 48 = .ok (.iload_n 1, 1) := by decide +kernel
theorem dX9_ofFact_49 : decode cX9_ofFact 49 = .ok (.ishr, 1) := by decide +kernel
theorem dX9_ofFact_50 : decode cX9_ofFact 50 = .ok (.iconst 1, 1) := by decide +kernel
theorem dX9_ofFact_51 : decode cX9_ofFact 51 = .ok (.iand, 1) := by decide +kernel
theorem dX9_ofFact_52 : decode cX9_ofFact 52 = .ok (.goto 18, 3) := by decide +kernel
theorem dX9_ofFact_55 : decode cX9_ofFact 55 = .ok (.iload_n 2, 1) := by decide +kernel
theorem dX9_ofFact_56 : decode cX9_ofFact 56 = .ok (.iconst 3, 1) := by decide +kernel
theorem dX9_ofFact_57 : decode cX9_ofFact 57 = .ok (.if_icmp .ne 11, 3) := by decide +kernel
theorem dX9_ofFact_60 : decode cX9_ofFact 60 = .ok (.aload_n 0, 1) := by decide +kernel
theorem dX9_ofFact_61 : decode cX9_ofFact 61 = .ok (.iload_n 1, 1) := by decide +kernel
theorem dX9_ofFact_62 : decode cX9_ofFact 62 = .ok (.invokevirtual 347, 3) := by decide +kernel
theorem dX9_ofFact_65 : decode cX9_ofFact 65 = .ok (.goto 5, 3) := by decide +kernel
theorem dX9_ofFact_68 : decode cX9_ofFact 68 = .ok (.bipush (-2), 2) := by decide +kernel
theorem dX9_ofFact_70 : decode cX9_ofFact 70 = .ok (.ireturn, 1) := by decide +kernel
theorem dX9_word_0 : decode cX9_word 0 = .ok (.aload_n 0, 1) := by decide +kernel
theorem dX9_word_1 : decode cX9_word 1 = .ok (.iload_n 1, 1) := by decide +kernel
theorem dX9_word_2 : decode cX9_word 2 = .ok (.invokevirtual 75, 3) := by decide +kernel
theorem dX9_word_5 : decode cX9_word 5 = .ok (.ifCond .ne 6, 3) := by decide +kernel
theorem dX9_word_8 : decode cX9_word 8 = .ok (.bipush (-2), 2) := by decide +kernel
theorem dX9_word_10 : decode cX9_word 10 = .ok (.ireturn, 1) := by decide +kernel
theorem dX9_word_11 : decode cX9_word 11 = .ok (.iload_n 2, 1) := by decide +kernel
theorem dX9_word_12 : decode cX9_word 12 = .ok (.iconst 0, 1) := by decide +kernel
theorem dX9_word_13 : decode cX9_word 13 = .ok (.iconst 5, 1) := by decide +kernel
theorem dX9_word_14 : decode cX9_word 14 = .ok (.invokestatic 63, 3) := by decide +kernel
theorem dX9_word_17 : decode cX9_word 17 = .ok (.ifCond .eq 12, 3) := by decide +kernel
theorem dX9_word_20 : decode cX9_word 20 = .ok (.aload_n 0, 1) := by decide +kernel
theorem dX9_word_21 : decode cX9_word 21 = .ok (.iload_n 1, 1) := by decide +kernel
theorem dX9_word_22 : decode cX9_word 22 = .ok (.iload_n 2, 1) := by decide +kernel
theorem dX9_word_23 : decode cX9_word 23 = .ok (.invokevirtual 67, 3) := by decide +kernel
theorem dX9_word_26 : decode cX9_word 26 = .ok (.goto 54, 3) := by decide +kernel
theorem dX9_word_29 : decode cX9_word 29 = .ok (.iload_n 2, 1) := by decide +kernel
theorem dX9_word_30 : decode cX9_word 30 = .ok (.bipush 6, 2) := by decide +kernel
theorem dX9_word_32 : decode cX9_word 32 = .ok (.if_icmp .ne 17, 3) := by decide +kernel
theorem dX9_word_35 : decode cX9_word 35 = .ok (.aload_n 0, 1) := by decide +kernel
theorem dX9_word_36 : decode cX9_word 36 = .ok (.aload_n 0, 1) := by decide +kernel
theorem dX9_word_37 : decode cX9_word 37 = .ok (.getfield 7, 3) := by decide +kernel
theorem dX9_word_40 : decode cX9_word 40 = .ok (.iconst 3, 1) := by decide +kernel
theorem dX9_word_41 : decode cX9_word 41 = .ok (.iaload, 1) := by decide +kernel
theorem dX9_word_42 : decode cX9_word 42 = .ok (.iload_n 1, 1) := by decide +kernel
theorem dX9_word_43 : decode cX9_word 43 = .ok (.invokevirtual 344, 3) := by decide +kernel
theorem dX9_word_46 : decode cX9_word 46 = .ok (.goto 34, 3) := by decide +kernel
theorem dX9_word_49 : decode cX9_word 49 = .ok (.iload_n 2, 1) := by decide +kernel
theorem dX9_word_50 : decode cX9_word 50 = .ok (.bipush 7, 2) := by decide +kernel
theorem dX9_word_52 : decode cX9_word 52 = .ok (.if_icmp .ne 26, 3) := by decide +kernel
theorem dX9_word_55 : decode cX9_word 55 = .ok (.aload_n 0, 1) := by decide +kernel
theorem dX9_word_56 : decode cX9_word 56 = .ok (.iload_n 1, 1) := by decide +kernel
theorem dX9_word_57 : decode cX9_word 57 = .ok (.aload_n 0, 1) := by decide +kernel
theorem dX9_word_58 : decode cX9_word 58 = .ok (.getfield 7, 3) := by decide +kernel
theorem dX9_word_61 : decode cX9_word 61 = .ok (.bipush 10, 2) := by decide +kernel
theorem dX9_word_63 : decode cX9_word 63 = .ok (.iaload, 1) := by decide +kernel
theorem dX9_word_64 : decode cX9_word 64 = .ok (.invokevirtual 356, 3) := by decide +kernel
theorem dX9_word_67 : decode cX9_word 67 = .ok (.ifCond .eq 7, 3) := by decide +kernel
theorem dX9_word_70 : decode cX9_word 70 = .ok (.iconst 1, 1) := by decide +kernel
theorem dX9_word_71 : decode cX9_word 71 = .ok (.goto 9, 3) := by decide +kernel
theorem dX9_word_74 : decode cX9_word 74 = .ok (.iconst 0, 1) := by decide +kernel
theorem dX9_word_75 : decode cX9_word 75 = .ok (.goto 5, 3) := by decide +kernel
theorem dX9_word_78 : decode cX9_word 78 = .ok (.bipush (-2), 2) := by decide +kernel
theorem dX9_word_80 : decode cX9_word 80 = .ok (.ireturn, 1) := by decide +kernel
theorem dX9_is_0 : decode cX9_is 0 = .ok (.iload_n 1, 1) := by decide +kernel
theorem dX9_is_1 : decode cX9_is 1 = .ok (.iconst 0, 1) := by decide +kernel
theorem dX9_is_2 : decode cX9_is 2 = .ok (.iconst 3, 1) := by decide +kernel
theorem dX9_is_3 : decode cX9_is 3 = .ok (.invokestatic 63, 3) := by decide +kernel
theorem dX9_is_6 : decode cX9_is 6 = .ok (.ifCond .eq 15, 3) := by decide +kernel
theorem dX9_is_9 : decode cX9_is 9 = .ok (.aload_n 0, 1) := by decide +kernel
theorem dX9_is_10 : decode cX9_is 10 = .ok (.getfield 7, 3) := by decide +kernel
theorem dX9_is_13 : decode cX9_is 13 = .ok (.bipush 8, 2) := by decide +kernel
theorem dX9_is_15 : decode cX9_is 15 = .ok (.iload_n 1, 1) := by decide +kernel
theorem dX9_is_16 : decode cX9_is 16 = .ok (.iadd, 1) := by decide +kernel
theorem dX9_is_17 : decode cX9_is 17 = .ok (.iaload, 1) := by decide +kernel
theorem dX9_is_18 : decode cX9_is 18 = .ok (.goto 5, 3) := by decide +kernel
theorem dX9_is_21 : decode cX9_is 21 = .ok (.bipush (-2), 2) := by decide +kernel
theorem dX9_is_23 : decode cX9_is 23 = .ok (.ireturn, 1) := by decide +kernel
theorem dX9_book_0 : decode cX9_book 0 = .ok (.iload_n 1, 1) := by decide +kernel
theorem dX9_book_1 : decode cX9_book 1 = .ok (.iconst (-1), 1) := by decide +kernel
theorem dX9_book_2 : decode cX9_book 2 = .ok (.if_icmp .ne 11, 3) := by decide +kernel
theorem dX9_book_5 : decode cX9_book 5 = .ok (.aload_n 0, 1) := by decide +kernel
theorem dX9_book_6 : decode cX9_book 6 = .ok (.getfield 7, 3) := by decide +kernel
theorem dX9_book_9 : decode cX9_book 9 = .ok (.bipush 12, 2) := by decide +kernel
theorem dX9_book_11 : decode cX9_book 11 = .ok (.iaload, 1) := by decide +kernel
theorem dX9_book_12 : decode cX9_book 12 = .ok (.ireturn, 1) := by decide +kernel
theorem dX9_book_13 : decode cX9_book 13 = .ok (.iload_n 1, 1) := by decide +kernel
theorem dX9_book_14 : decode cX9_book 14 = .ok (.iconst 0, 1) := by decide +kernel
theorem dX9_book_15 : decode cX9_book 15 = .ok (.aload_n 0, 1) := by decide +kernel
theorem dX9_book_16 : decode cX9_book 16 = .ok (.getfield 7, 3) := by decide +kernel
theorem dX9_book_19 : decode cX9_book 19 = .ok (.bipush 12, 2) := by decide +kernel
theorem dX9_book_21 : decode cX9_book 21 = .ok (.iaload, 1) := by decide +kernel
theorem dX9_book_22 : decode cX9_book 22 = .ok (.iconst 1, 1) := by decide +kernel
theorem dX9_book_23 : decode cX9_book 23 = .ok (.isub, 1) := by decide +kernel
theorem dX9_book_24 : decode cX9_book 24 = .ok (.invokestatic 63, 3) := by decide +kernel
theorem dX9_book_27 : decode cX9_book 27 = .ok (.ifCond .ne 6, 3) := by decide +kernel
theorem dX9_book_30 : decode cX9_book 30 = .ok (.bipush (-2), 2) := by decide +kernel
theorem dX9_book_32 : decode cX9_book 32 = .ok (.ireturn, 1) := by decide +kernel
theorem dX9_book_33 : decode cX9_book 33 = .ok (.aload_n 0, 1) := by decide +kernel
theorem dX9_book_34 : decode cX9_book 34 = .ok (.getfield 7, 3) := by decide +kernel
theorem dX9_book_37 : decode cX9_book 37 = .ok (.sipush 4810, 3) := by decide +kernel
theorem dX9_book_40 : decode cX9_book 40 = .ok (.iconst 2, 1) := by decide +kernel
theorem dX9_book_41 : decode cX9_book 41 = .ok (.iload_n 1, 1) := by decide +kernel
theorem dX9_book_42 : decode cX9_book 42 = .ok (.imul, 1) := by decide +kernel
theorem dX9_book_43 : decode cX9_book 43 = .ok (.iadd, 1) := by decide +kernel
theorem dX9_book_44 : decode cX9_book 44 = .ok (.iconst 1, 1) := by decide +kernel
theorem dX9_book_45 : decode cX9_book 45 = .ok (.iadd, 1) := by decide +kernel
theorem dX9_book_46 : decode cX9_book 46 = .ok (.iaload, 1) := by decide +kernel
theorem dX9_book_47 : decode cX9_book 47 = .ok (.istore_n 3, 1) := by decide +kernel
theorem dX9_book_48 : decode cX9_book 48 = .ok (.iload_n 2, 1) := by decide +kernel
theorem dX9_book_49 : decode cX9_book 49 = .ok (.ifCond .ne 18, 3) := by decide +kernel
theorem dX9_book_52 : decode cX9_book 52 = .ok (.aload_n 0, 1) := by decide +kernel
theorem dX9_book_53 : decode cX9_book 53 = .ok (.getfield 7, 3) := by decide +kernel
theorem dX9_book_56 : decode cX9_book 56 = .ok (.sipush 4810, 3) := by decide +kernel
theorem dX9_book_59 : decode cX9_book 59 = .ok (.iconst 2, 1) := by decide +kernel
theorem dX9_book_60 : decode cX9_book 60 = .ok (.iload_n 1, 1) := by decide +kernel
theorem dX9_book_61 : decode cX9_book 61 = .ok (.imul, 1) := by decide +kernel
theorem dX9_book_62 : decode cX9_book 62 = .ok (.iadd, 1) := by decide +kernel
theorem dX9_book_63 : decode cX9_book 63 = .ok (.iaload, 1) := by decide +kernel
theorem dX9_book_64 : decode cX9_book 64 = .ok (.goto 46, 3) := by decide +kernel
theorem dX9_book_67 : decode cX9_book 67 = .ok (.iload_n 2, 1) := by decide +kernel
theorem dX9_book_68 : decode cX9_book 68 = .ok (.iconst 1, 1) := by decide +kernel
theorem dX9_book_69 : decode cX9_book 69 = .ok (.if_icmp .ne 11, 3) := by decide +kernel
theorem dX9_book_72 : decode cX9_book 72 = .ok (.iload_n 3, 1) := by decide +kernel
theorem dX9_book_73 : decode cX9_book 73 = .ok (.ldc_w 431, 3) := by decide +kernel
theorem dX9_book_76 : decode cX9_book 76 = .ok (.idiv, 1) := by decide +kernel
theorem dX9_book_77 : decode cX9_book 77 = .ok (.goto 33, 3) := by decide +kernel
theorem dX9_book_80 : decode cX9_book 80 = .ok (.iload_n 2, 1) := by decide +kernel
theorem dX9_book_81 : decode cX9_book 81 = .ok (.iconst 2, 1) := by decide +kernel
theorem dX9_book_82 : decode cX9_book 82 = .ok (.if_icmp .ne 13, 3) := by decide +kernel
theorem dX9_book_85 : decode cX9_book 85 = .ok (.iload_n 3, 1) := by decide +kernel
theorem dX9_book_86 : decode cX9_book 86 = .ok (.sipush 10000, 3) := by decide +kernel
theorem dX9_book_89 : decode cX9_book 89 = .ok (.idiv, 1) := by decide +kernel
theorem dX9_book_90 : decode cX9_book 90 = .ok (.iconst 4, 1) := by decide +kernel
theorem dX9_book_91 : decode cX9_book 91 = .ok (.irem, 1) := by decide +kernel
theorem dX9_book_92 : decode cX9_book 92 = .ok (.goto 18, 3) := by decide +kernel
theorem dX9_book_95 : decode cX9_book 95 = .ok (.iload_n 2, 1) := by decide +kernel
theorem dX9_book_96 : decode cX9_book 96 = .ok (.iconst 3, 1) := by decide +kernel
theorem dX9_book_97 : decode cX9_book 97 = .ok (.if_icmp .ne 11, 3) := by decide +kernel
theorem dX9_book_100 : decode cX9_book 100 = .ok (.iload_n 3, 1) := by decide +kernel
theorem dX9_book_101 : decode cX9_book 101 = .ok (.sipush 10000, 3) := by decide +kernel
theorem dX9_book_104 : decode cX9_book 104 = .ok (.irem, 1) := by decide +kernel
theorem dX9_book_105 : decode cX9_book 105 = .ok (.goto 5, 3) := by decide +kernel
theorem dX9_book_108 : decode cX9_book 108 = .ok (.bipush (-2), 2) := by decide +kernel
theorem dX9_book_110 : decode cX9_book 110 = .ok (.ireturn, 1) := by decide +kernel
theorem dX9_ledger_0 : decode cX9_ledger 0 = .ok (.iload_n 1, 1) := by decide +kernel
theorem dX9_ledger_1 : decode cX9_ledger 1 = .ok (.iconst 0, 1) := by decide +kernel
theorem dX9_ledger_2 : decode cX9_ledger 2 = .ok (.iconst 2, 1) := by decide +kernel
theorem dX9_ledger_3 : decode cX9_ledger 3 = .ok (.invokestatic 63, 3) := by decide +kernel
theorem dX9_ledger_6 : decode cX9_ledger 6 = .ok (.ifCond .ne 6, 3) := by decide +kernel
theorem dX9_ledger_9 : decode cX9_ledger 9 = .ok (.bipush (-2), 2) := by decide +kernel
theorem dX9_ledger_11 : decode cX9_ledger 11 = .ok (.ireturn, 1) := by decide +kernel
theorem dX9_ledger_12 : decode cX9_ledger 12 = .ok (.iconst 0, 1) := by decide +kernel
theorem dX9_ledger_13 : decode cX9_ledger 13 = .ok (.istore_n 2, 1) := by decide +kernel
theorem dX9_ledger_14 : decode cX9_ledger 14 = .ok (.iconst 0, 1) := by decide +kernel
theorem dX9_ledger_15 : decode cX9_ledger 15 = .ok (.istore_n 3, 1) := by decide +kernel
theorem dX9_ledger_16 : decode cX9_ledger 16 = .ok (.iload_n 3, 1) := by decide +kernel
theorem dX9_ledger_17 : decode cX9_ledger 17 = .ok (.aload_n 0, 1) := by decide +kernel
theorem dX9_ledger_18 : decode cX9_ledger 18 = .ok (.getfield 7, 3) := by decide +kernel
theorem dX9_ledger_21 : decode cX9_ledger 21 = .ok (.bipush 12, 2) := by decide +kernel
theorem dX9_ledger_23 : decode cX9_ledger 23 = .ok (.iaload, 1) := by decide +kernel
theorem dX9_ledger_24 : decode cX9_ledger 24 = .ok (.if_icmp .ge 32, 3) := by decide +kernel
theorem dX9_ledger_27 : decode cX9_ledger 27 = .ok (.iload_n 2, 1) := by decide +kernel
theorem dX9_ledger_28 : decode cX9_ledger 28 = .ok (.aload_n 0, 1) := by decide +kernel
theorem dX9_ledger_29 : decode cX9_ledger 29 = .ok (.iload_n 3, 1) := by decide +kernel
theorem dX9_ledger_30 : decode cX9_ledger 30 = .ok (.iconst 2, 1) := by decide +kernel
theorem dX9_ledger_31 : decode cX9_ledger 31 = .ok (.invokevirtual 432, 3) := by decide +kernel
theorem dX9_ledger_34 : decode cX9_ledger 34 = .ok (.iload_n 1, 1) := by decide +kernel
theorem dX9_ledger_35 : decode cX9_ledger 35 = .ok (.if_icmp .ne 12, 3) := by decide +kernel
theorem dX9_ledger_38 : decode cX9_ledger 38 = .ok (.aload_n 0, 1) := by decide +kernel
theorem dX9_ledger_39 : decode cX9_ledger 39 = .ok (.iload_n 3, 1) := by decide +kernel
theorem dX9_ledger_40 : decode cX9_ledger 40 = .ok (.iconst 3, 1) := by decide +kernel
theorem dX9_ledger_41 : decode cX9_ledger 41 = .ok (.invokevirtual 432, 3) := by decide +kernel
theorem dX9_ledger_44 : decode cX9_ledger 44 = .ok (.goto 4, 3) := by decide +kernel
theorem dX9_ledger_47 : decode cX9_ledger 47 = .ok (.iconst 0, 1) := by decide +kernel
theorem dX9_ledger_48 : decode cX9_ledger 48 = .ok (.iadd, 1) := by decide +kernel
theorem dX9_ledger_49 : decode cX9_ledger 49 = .ok (.istore_n 2, 1) := by decide +kernel
theorem dX9_ledger_50 : decode cX9_ledger 50 = .ok (.iinc 3 1, 3) := by decide +kernel
theorem dX9_ledger_53 : decode cX9_ledger 53 = .ok (.goto (-37), 3) := by decide +kernel
theorem dX9_ledger_56 : decode cX9_ledger 56 = .ok (.iload_n 2, 1) := by decide +kernel
theorem dX9_ledger_57 : decode cX9_ledger 57 = .ok (.ireturn, 1) := by decide +kernel
theorem dX9_mostOf_0 : decode cX9_mostOf 0 = .ok (.iconst (-1), 1) := by decide +kernel
theorem dX9_mostOf_1 : decode cX9_mostOf 1 = .ok (.istore_n 2, 1) := by decide +kernel
theorem dX9_mostOf_2 : decode cX9_mostOf 2 = .ok (.iconst 0, 1) := by decide +kernel
theorem dX9_mostOf_3 : decode cX9_mostOf 3 = .ok (.istore_n 3, 1) := by decide +kernel
theorem dX9_mostOf_4 : decode cX9_mostOf 4 = .ok (.iload_n 3, 1) := by decide +kernel
theorem dX9_mostOf_5 : decode cX9_mostOf 5 = .ok (.aload_n 0, 1) := by decide +kernel
theorem dX9_mostOf_6 : decode cX9_mostOf 6 = .ok (.getfield 7, 3) := by decide +kernel
theorem dX9_mostOf_9 : decode cX9_mostOf 9 = .ok (.iconst 1, 1) := by decide +kernel
theorem dX9_mostOf_10 : decode cX9_mostOf 10 = .ok (.iaload, 1) := by decide +kernel
theorem dX9_mostOf_11 : decode cX9_mostOf 11 = .ok (.if_icmp .ge 31, 3) := by decide +kernel
theorem dX9_mostOf_14 : decode cX9_mostOf 14 = .ok (.iload_n 2, 1) := by decide +kernel
theorem dX9_mostOf_15 : decode cX9_mostOf 15 = .ok (.iconst (-1), 1) := by decide +kernel
theorem dX9_mostOf_16 : decode cX9_mostOf 16 = .ok (.if_icmp .eq 18, 3) := by decide +kernel
theorem dX9_mostOf_19 : decode cX9_mostOf 19 = .ok (.aload_n 0, 1) := by decide +kernel
theorem dX9_mostOf_20 : decode cX9_mostOf 20 = .ok (.iload_n 3, 1) := by decide +kernel
theorem dX9_mostOf_21 : decode cX9_mostOf 21 = .ok (.iload_n 1, 1) := by decide +kernel
theorem dX9_mostOf_22 : decode cX9_mostOf 22 = .ok (.invokevirtual 87, 3) := by decide +kernel
theorem dX9_mostOf_25 : decode cX9_mostOf 25 = .ok (.aload_n 0, 1) := by decide +kernel
theorem dX9_mostOf_26 : decode cX9_mostOf 26 = .ok (.iload_n 2, 1) := by decide +kernel
theorem dX9_mostOf_27 : decode cX9_mostOf 27 = .ok (.iload_n 1, 1) := by decide +kernel
theorem dX9_mostOf_28 : decode cX9_mostOf 28 = .ok (.invokevirtual 87, 3) := by decide +kernel
theorem dX9_mostOf_31 : decode cX9_mostOf 31 = .ok (.if_icmp .le 5, 3) := by decide +kernel
theorem dX9_mostOf_34 : decode cX9_mostOf 34 = .ok (.iload_n 3, 1) := by decide +kernel
theorem dX9_mostOf_35 : decode cX9_mostOf 35 = .ok (.istore_n 2, 1) := by decide +kernel
theorem dX9_mostOf_36 : decode cX9_mostOf 36 = .ok (.iinc 3 1, 3) := by decide +kernel
theorem dX9_mostOf_39 : decode cX9_mostOf 39 = .ok (.goto (-35), 3) := by decide +kernel
theorem dX9_mostOf_42 : decode cX9_mostOf 42 = .ok (.iload_n 2, 1) := by decide +kernel
theorem dX9_mostOf_43 : decode cX9_mostOf 43 = .ok (.ireturn, 1) := by decide +kernel
theorem dX9_famous_0 : decode cX9_famous 0 = .ok (.aload_n 0, 1) := by decide +kernel
theorem dX9_famous_1 : decode cX9_famous 1 = .ok (.iconst 1, 1) := by decide +kernel
theorem dX9_famous_2 : decode cX9_famous 2 = .ok (.invokevirtual 435, 3) := by decide +kernel
theorem dX9_famous_5 : decode cX9_famous 5 = .ok (.ireturn, 1) := by decide +kernel
theorem dX9_richest_0 : decode cX9_richest 0 = .ok (.aload_n 0, 1) := by decide +kernel
theorem dX9_richest_1 : decode cX9_richest 1 = .ok (.iconst 0, 1) := by decide +kernel
theorem dX9_richest_2 : decode cX9_richest 2 = .ok (.invokevirtual 435, 3) := by decide +kernel
theorem dX9_richest_5 : decode cX9_richest 5 = .ok (.ireturn, 1) := by decide +kernel
theorem dX9_ruined_0 : decode cX9_ruined 0 = .ok (.iconst 0, 1) := by decide +kernel
theorem dX9_ruined_1 : decode cX9_ruined 1 = .ok (.istore_n 1, 1) := by decide +kernel
theorem dX9_ruined_2 : decode cX9_ruined 2 = .ok (.iconst 0, 1) := by decide +kernel
theorem dX9_ruined_3 : decode cX9_ruined 3 = .ok (.istore_n 2, 1) := by decide +kernel
theorem dX9_ruined_4 : decode cX9_ruined 4 = .ok (.iload_n 2, 1) := by decide +kernel
theorem dX9_ruined_5 : decode cX9_ruined 5 = .ok (.aload_n 0, 1) := by decide +kernel
theorem dX9_ruined_6 : decode cX9_ruined 6 = .ok (.getfield 7, 3) := by decide +kernel
theorem dX9_ruined_9 : decode cX9_ruined 9 = .ok (.iconst 1, 1) := by decide +kernel
theorem dX9_ruined_10 : decode cX9_ruined 10 = .ok (.iaload, 1) := by decide +kernel
theorem dX9_ruined_11 : decode cX9_ruined 11 = .ok (.if_icmp .ge 20, 3) := by decide +kernel
theorem dX9_ruined_14 : decode cX9_ruined 14 = .ok (.iload_n 1, 1) := by decide +kernel
theorem dX9_ruined_15 : decode cX9_ruined 15 = .ok (.aload_n 0, 1) := by decide +kernel
theorem dX9_ruined_16 : decode cX9_ruined 16 = .ok (.iload_n 2, 1) := by decide +kernel
theorem dX9_ruined_17 : decode cX9_ruined 17 = .ok (.iconst 2, 1) := by decide +kernel
theorem dX9_ruined_18 : decode cX9_ruined 18 = .ok (.invokevirtual 87, 3) := by decide +kernel
theorem dX9_ruined_21 : decode cX9_ruined 21 = .ok (.iload_n 2, 1) := by decide +kernel
theorem dX9_ruined_22 : decode cX9_ruined 22 = .ok (.ishl, 1) := by decide +kernel
theorem dX9_ruined_23 : decode cX9_ruined 23 = .ok (.ior, 1) := by decide +kernel
theorem dX9_ruined_24 : decode cX9_ruined 24 = .ok (.istore_n 1, 1) := by decide +kernel
theorem dX9_ruined_25 : decode cX9_ruined 25 = .ok (.iinc 2 1, 3) := by decide +kernel
theorem dX9_ruined_28 : decode cX9_ruined 28 = .ok (.goto (-24), 3) := by decide +kernel
theorem dX9_ruined_31 : decode cX9_ruined 31 = .ok (.iload_n 1, 1) := by decide +kernel
theorem dX9_ruined_32 : decode cX9_ruined 32 = .ok (.ireturn, 1) := by decide +kernel
theorem dX9_idle_0 : decode cX9_idle 0 = .ok (.iconst 0, 1) := by decide +kernel
theorem dX9_idle_1 : decode cX9_idle 1 = .ok (.istore_n 1, 1) := by decide +kernel
theorem dX9_idle_2 : decode cX9_idle 2 = .ok (.iconst 0, 1) := by decide +kernel
theorem dX9_idle_3 : decode cX9_idle 3 = .ok (.istore_n 2, 1) := by decide +kernel
theorem dX9_idle_4 : decode cX9_idle 4 = .ok (.iload_n 2, 1) := by decide +kernel
theorem dX9_idle_5 : decode cX9_idle 5 = .ok (.aload_n 0, 1) := by decide +kernel
theorem dX9_idle_6 : decode cX9_idle 6 = .ok (.getfield 7, 3) := by decide +kernel
theorem dX9_idle_9 : decode cX9_idle 9 = .ok (.iconst 1, 1) := by decide +kernel
theorem dX9_idle_10 : decode cX9_idle 10 = .ok (.iaload, 1) := by decide +kernel
theorem dX9_idle_11 : decode cX9_idle 11 = .ok (.if_icmp .ge 27, 3) := by decide +kernel
theorem dX9_idle_14 : decode cX9_idle 14 = .ok (.iload_n 1, 1) := by decide +kernel
theorem dX9_idle_15 : decode cX9_idle 15 = .ok (.aload_n 0, 1) := by decide +kernel
theorem dX9_idle_16 : decode cX9_idle 16 = .ok (.iload_n 2, 1) := by decide +kernel
theorem dX9_idle_17 : decode cX9_idle 17 = .ok (.invokevirtual 425, 3) := by decide +kernel
theorem dX9_idle_20 : decode cX9_idle 20 = .ok (.ifCond .ne 9, 3) := by decide +kernel
theorem dX9_idle_23 : decode cX9_idle 23 = .ok (.iconst 1, 1) := by decide +kernel
theorem dX9_idle_24 : decode cX9_idle 24 = .ok (.iload_n 2, 1) := by decide +kernel
theorem dX9_idle_25 : decode cX9_idle 25 = .ok (.ishl, 1) := by decide +kernel
theorem dX9_idle_26 : decode cX9_idle 26 = .ok (.goto 4, 3) := by decide +kernel
theorem dX9_idle_29 : decode cX9_idle 29 = .ok (.iconst 0, 1) := by decide +kernel
theorem dX9_idle_30 : decode cX9_idle 30 = .ok (.ior, 1) := by decide +kernel
theorem dX9_idle_31 : decode cX9_idle 31 = .ok (.istore_n 1, 1) := by decide +kernel
theorem dX9_idle_32 : decode cX9_idle 32 = .ok (.iinc 2 1, 3) := by decide +kernel
theorem dX9_idle_35 : decode cX9_idle 35 = .ok (.goto (-31), 3) := by decide +kernel
theorem dX9_idle_38 : decode cX9_idle 38 = .ok (.iload_n 1, 1) := by decide +kernel
theorem dX9_idle_39 : decode cX9_idle 39 = .ok (.ireturn, 1) := by decide +kernel
theorem dX9_setAside_0 : decode cX9_setAside 0 = .ok (.bipush 8, 2) := by decide +kernel
theorem dX9_setAside_2 : decode cX9_setAside 2 = .ok (.istore_n 1, 1) := by decide +kernel
theorem dX9_setAside_3 : decode cX9_setAside 3 = .ok (.iload_n 1, 1) := by decide +kernel
theorem dX9_setAside_4 : decode cX9_setAside 4 = .ok (.bipush 110, 2) := by decide +kernel
theorem dX9_setAside_6 : decode cX9_setAside 6 = .ok (.if_icmp .ge 21, 3) := by decide +kernel
theorem dX9_setAside_9 : decode cX9_setAside 9 = .ok (.aload_n 0, 1) := by decide +kernel
theorem dX9_setAside_10 : decode cX9_setAside 10 = .ok (.getfield 47, 3) := by decide +kernel
theorem dX9_setAside_13 : decode cX9_setAside 13 = .ok (.iload_n 1, 1) := by decide +kernel
theorem dX9_setAside_14 : decode cX9_setAside 14 = .ok (.aload_n 0, 1) := by decide +kernel
theorem dX9_setAside_15 : decode cX9_setAside 15 = .ok (.getfield 7, 3) := by decide +kernel
theorem dX9_setAside_18 : decode cX9_setAside 18 = .ok (.iload_n 1, 1) := by decide +kernel
theorem dX9_setAside_19 : decode cX9_setAside 19 = .ok (.iaload, 1) := by decide +kernel
theorem dX9_setAside_20 : decode cX9_setAside 20 = .ok (.iastore, 1) := by decide +kernel
theorem dX9_setAside_21 : decode cX9_setAside 21 = .ok (.iinc 1 1, 3) := by decide +kernel
theorem dX9_setAside_24 : decode cX9_setAside 24 = .ok (.goto (-21), 3) := by decide +kernel
theorem dX9_setAside_27 : decode cX9_setAside 27 = .ok (.aload_n 0, 1) := by decide +kernel
theorem dX9_setAside_28 : decode cX9_setAside 28 = .ok (.iconst 0, 1) := by decide +kernel
theorem dX9_setAside_29 : decode cX9_setAside 29 = .ok (.putfield 43, 3) := by decide +kernel
theorem dX9_setAside_32 : decode cX9_setAside 32 = .ok (.return_, 1) := by decide +kernel
theorem dX9_putBack_0 : decode cX9_putBack 0 = .ok (.bipush 8, 2) := by decide +kernel
theorem dX9_putBack_2 : decode cX9_putBack 2 = .ok (.istore_n 1, 1) := by decide +kernel
theorem dX9_putBack_3 : decode cX9_putBack 3 = .ok (.iload_n 1, 1) := by decide +kernel
theorem dX9_putBack_4 : decode cX9_putBack 4 = .ok (.bipush 110, 2) := by decide +kernel
theorem dX9_putBack_6 : decode cX9_putBack 6 = .ok (.if_icmp .ge 21, 3) := by decide +kernel
theorem dX9_putBack_9 : decode cX9_putBack 9 = .ok (.aload_n 0, 1) := by decide +kernel
theorem dX9_putBack_10 : decode cX9_putBack 10 = .ok (.getfield 7, 3) := by decide +kernel
theorem dX9_putBack_13 : decode cX9_putBack 13 = .ok (.iload_n 1, 1) := by decide +kernel
theorem dX9_putBack_14 : decode cX9_putBack 14 = .ok (.aload_n 0, 1) := by decide +kernel
theorem dX9_putBack_15 : decode cX9_putBack 15 = .ok (.getfield 47, 3) := by decide +kernel
theorem dX9_putBack_18 : decode cX9_putBack 18 = .ok (.iload_n 1, 1) := by decide +kernel
theorem dX9_putBack_19 : decode cX9_putBack 19 = .ok (.iaload, 1) := by decide +kernel
theorem dX9_putBack_20 : decode cX9_putBack 20 = .ok (.iastore, 1) := by decide +kernel
theorem dX9_putBack_21 : decode cX9_putBack 21 = .ok (.iinc 1 1, 3) := by decide +kernel
theorem dX9_putBack_24 : decode cX9_putBack 24 = .ok (.goto (-21), 3) := by decide +kernel
theorem dX9_putBack_27 : decode cX9_putBack 27 = .ok (.aload_n 0, 1) := by decide +kernel
theorem dX9_putBack_28 : decode cX9_putBack 28 = .ok (.iconst 1, 1) := by decide +kernel
theorem dX9_putBack_29 : decode cX9_putBack 29 = .ok (.putfield 43, 3) := by decide +kernel
theorem dX9_putBack_32 : decode cX9_putBack 32 = .ok (.return_, 1) := by decide +kernel
theorem dX9_ahead_0 : decode cX9_ahead 0 = .ok (.iload_n 1, 1) := by decide +kernel
theorem dX9_ahead_1 : decode cX9_ahead 1 = .ok (.iconst 1, 1) := by decide +kernel
theorem dX9_ahead_2 : decode cX9_ahead 2 = .ok (.bipush 60, 2) := by decide +kernel
theorem dX9_ahead_4 : decode cX9_ahead 4 = .ok (.invokestatic 63, 3) := by decide +kernel
theorem dX9_ahead_7 : decode cX9_ahead 7 = .ok (.ifCond .eq 38, 3) := by decide +kernel
theorem dX9_ahead_10 : decode cX9_ahead 10 = .ok (.iload_n 2, 1) := by decide +kernel
theorem dX9_ahead_11 : decode cX9_ahead 11 = .ok (.iconst 0, 1) := by decide +kernel
theorem dX9_ahead_12 : decode cX9_ahead 12 = .ok (.iconst 2, 1) := by decide +kernel
theorem dX9_ahead_13 : decode cX9_ahead 13 = .ok (.invokestatic 63, 3) := by decide +kernel
theorem dX9_ahead_16 : decode cX9_ahead 16 = .ok (.ifCond .eq 29, 3) := by decide +kernel
theorem dX9_ahead_19 : decode cX9_ahead 19 = .ok (.iload_n 2, 1) := by decide +kernel
theorem dX9_ahead_20 : decode cX9_ahead 20 = .ok (.iconst 1, 1) := by decide +kernel
theorem dX9_ahead_21 : decode cX9_ahead 21 = .ok (.if_icmp .ne 11, 3) := by decide +kernel
theorem dX9_ahead_24 : decode cX9_ahead 24 = .ok (.aload_n 0, 1) := by decide +kernel
theorem dX9_ahead_25 : decode cX9_ahead 25 = .ok (.iload_n 3, 1) := by decide +kernel
theorem dX9_ahead_26 : decode cX9_ahead 26 = .ok (.invokevirtual 365, 3) := by decide +kernel
theorem dX9_ahead_29 : decode cX9_ahead 29 = .ok (.ifCond .eq 16, 3) := by decide +kernel
theorem dX9_ahead_32 : decode cX9_ahead 32 = .ok (.iload_n 2, 1) := by decide +kernel
theorem dX9_ahead_33 : decode cX9_ahead 33 = .ok (.iconst 2, 1) := by decide +kernel
theorem dX9_ahead_34 : decode cX9_ahead 34 = .ok (.if_icmp .ne 13, 3) := by decide +kernel
theorem dX9_ahead_37 : decode cX9_ahead 37 = .ok (.aload_n 0, 1) := by decide +kernel
theorem dX9_ahead_38 : decode cX9_ahead 38 = .ok (.iload_n 3, 1) := by decide +kernel
theorem dX9_ahead_39 : decode cX9_ahead 39 = .ok (.invokevirtual 75, 3) := by decide +kernel
theorem dX9_ahead_42 : decode cX9_ahead 42 = .ok (.ifCond .ne 5, 3) := by decide +kernel
theorem dX9_ahead_45 : decode cX9_ahead 45 = .ok (.iconst (-1), 1) := by decide +kernel
theorem dX9_ahead_46 : decode cX9_ahead 46 = .ok (.ireturn, 1) := by decide +kernel
theorem dX9_ahead_47 : decode cX9_ahead 47 = .ok (.aload_n 0, 1) := by decide +kernel
theorem dX9_ahead_48 : decode cX9_ahead 48 = .ok (.invokevirtual 438, 3) := by decide +kernel
theorem dX9_ahead_51 : decode cX9_ahead 51 = .ok (.iconst 0, 1) := by decide +kernel
theorem dX9_ahead_52 : decode cX9_ahead 52 = .ok (.istore 4, 2) := by decide +kernel
theorem dX9_ahead_54 : decode cX9_ahead 54 = .ok (.iload 4, 2) := by decide +kernel
theorem dX9_ahead_56 : decode cX9_ahead 56 = .ok (.iload_n 1, 1) := by decide +kernel
theorem dX9_ahead_57 : decode cX9_ahead 57 = .ok (.if_icmp .ge 26, 3) := by decide +kernel
theorem dX9_ahead_60 : decode cX9_ahead 60 = .ok (.aload_n 0, 1) := by decide +kernel
theorem dX9_ahead_61 : decode cX9_ahead 61 = .ok (.getfield 7, 3) := by decide +kernel
theorem dX9_ahead_64 : decode cX9_ahead 64 = .ok (.bipush 8, 2) := by decide +kernel
theorem dX9_ahead_66 : decode cX9_ahead 66 = .ok (.iaload, 1) := by decide +kernel
theorem dX9_ahead_67 : decode cX9_ahead 67 = .ok (.sipush 9999, 3) := by decide +kernel
theorem dX9_ahead_70 : decode cX9_ahead 70 = .ok (.if_icmp .ge 7, 3) := by decide +kernel
theorem dX9_ahead_73 : decode cX9_ahead 73 = .ok (.aload_n 0, 1) := by decide +kernel
theorem dX9_ahead_74 : decode cX9_ahead 74 = .ok (.invokevirtual 394, 3) := by decide +kernel
theorem dX9_ahead_77 : decode cX9_ahead 77 = .ok (.iinc 4 1, 3) := by decide +kernel
theorem dX9_ahead_80 : decode cX9_ahead 80 = .ok (.goto (-26), 3) := by decide +kernel
theorem dX9_ahead_83 : decode cX9_ahead 83 = .ok (.iload_n 2, 1) := by decide +kernel
theorem dX9_ahead_84 : decode cX9_ahead 84 = .ok (.ifCond .ne 13, 3) := by decide +kernel
theorem dX9_ahead_87 : decode cX9_ahead 87 = .ok (.aload_n 0, 1) := by decide +kernel
theorem dX9_ahead_88 : decode cX9_ahead 88 = .ok (.getfield 7, 3) := by decide +kernel
theorem dX9_ahead_91 : decode cX9_ahead 91 = .ok (.bipush 10, 2) := by decide +kernel
theorem dX9_ahead_93 : decode cX9_ahead 93 = .ok (.iaload, 1) := by decide +kernel
theorem dX9_ahead_94 : decode cX9_ahead 94 = .ok (.goto 23, 3) := by decide +kernel
theorem dX9_ahead_97 : decode cX9_ahead 97 = .ok (.iload_n 2, 1) := by decide +kernel
theorem dX9_ahead_98 : decode cX9_ahead 98 = .ok (.iconst 1, 1) := by decide +kernel
theorem dX9_ahead_99 : decode cX9_ahead 99 = .ok (.if_icmp .ne 12, 3) := by decide +kernel
theorem dX9_ahead_102 : decode cX9_ahead 102 = .ok (.aload_n 0, 1) := by decide +kernel
theorem dX9_ahead_103 : decode cX9_ahead 103 = .ok (.iload_n 3, 1) := by decide +kernel
theorem dX9_ahead_104 : decode cX9_ahead 104 = .ok (.iconst 0, 1) := by decide +kernel
theorem dX9_ahead_105 : decode cX9_ahead 105 = .ok (.invokevirtual 87, 3) := by decide +kernel
theorem dX9_ahead_108 : decode cX9_ahead 108 = .ok (.goto 9, 3) := by decide +kernel
theorem dX9_ahead_111 : decode cX9_ahead 111 = .ok (.aload_n 0, 1) := by decide +kernel
theorem dX9_ahead_112 : decode cX9_ahead 112 = .ok (.iload_n 3, 1) := by decide +kernel
theorem dX9_ahead_113 : decode cX9_ahead 113 = .ok (.iconst 5, 1) := by decide +kernel
theorem dX9_ahead_114 : decode cX9_ahead 114 = .ok (.invokevirtual 67, 3) := by decide +kernel
theorem dX9_ahead_117 : decode cX9_ahead 117 = .ok (.istore 4, 2) := by decide +kernel
theorem dX9_ahead_119 : decode cX9_ahead 119 = .ok (.aload_n 0, 1) := by decide +kernel
theorem dX9_ahead_120 : decode cX9_ahead 120 = .ok (.invokevirtual 441, 3) := by decide +kernel
theorem dX9_ahead_123 : decode cX9_ahead 123 = .ok (.iload 4, 2) := by decide +kernel
theorem dX9_ahead_125 : decode cX9_ahead 125 = .ok (.ireturn, 1) := by decide +kernel
theorem dX9_until_0 : decode cX9_until 0 = .ok (.aload_n 0, 1) := by decide +kernel
theorem dX9_until_1 : decode cX9_until 1 = .ok (.iload_n 1, 1) := by decide +kernel
theorem dX9_until_2 : decode cX9_until 2 = .ok (.invokevirtual 353, 3) := by decide +kernel
theorem dX9_until_5 : decode cX9_until 5 = .ok (.ifCond .ne 5, 3) := by decide +kernel
theorem dX9_until_8 : decode cX9_until 8 = .ok (.iconst (-1), 1) := by decide +kernel
theorem dX9_until_9 : decode cX9_until 9 = .ok (.ireturn, 1) := by decide +kernel
theorem dX9_until_10 : decode cX9_until 10 = .ok (.aload_n 0, 1) := by decide +kernel
theorem dX9_until_11 : decode cX9_until 11 = .ok (.invokevirtual 438, 3) := by decide +kernel
theorem dX9_until_14 : decode cX9_until 14 = .ok (.iconst 0, 1) := by decide +kernel
theorem dX9_until_15 : decode cX9_until 15 = .ok (.istore_n 2, 1) := by decide +kernel
theorem dX9_until_16 : decode cX9_until 16 = .ok (.iload_n 2, 1) := by decide +kernel
theorem dX9_until_17 : decode cX9_until 17 = .ok (.bipush 60, 2) := by decide +kernel
theorem dX9_until_19 : decode cX9_until 19 = .ok (.if_icmp .ge 34, 3) := by decide +kernel
theorem dX9_until_22 : decode cX9_until 22 = .ok (.aload_n 0, 1) := by decide +kernel
theorem dX9_until_23 : decode cX9_until 23 = .ok (.getfield 7, 3) := by decide +kernel
theorem dX9_until_26 : decode cX9_until 26 = .ok (.bipush 8, 2) := by decide +kernel
theorem dX9_until_28 : decode cX9_until 28 = .ok (.iaload, 1) := by decide +kernel
theorem dX9_until_29 : decode cX9_until 29 = .ok (.sipush 9999, 3) := by decide +kernel
theorem dX9_until_32 : decode cX9_until 32 = .ok (.if_icmp .ge 21, 3) := by decide +kernel
theorem dX9_until_35 : decode cX9_until 35 = .ok (.aload_n 0, 1) := by decide +kernel
theorem dX9_until_36 : decode cX9_until 36 = .ok (.iload_n 1, 1) := by decide +kernel
theorem dX9_until_37 : decode cX9_until 37 = .ok (.invokevirtual 353, 3) := by decide +kernel
theorem dX9_until_40 : decode cX9_until 40 = .ok (.ifCond .eq 13, 3) := by decide +kernel
theorem dX9_until_43 : decode cX9_until 43 = .ok (.aload_n 0, 1) := by decide +kernel
theorem dX9_until_44 : decode cX9_until 44 = .ok (.invokevirtual 394, 3) := by decide +kernel
theorem dX9_until_47 : decode cX9_until 47 = .ok (.iinc 2 1, 3) := by decide +kernel
theorem dX9_until_50 : decode cX9_until 50 = .ok (.goto (-34), 3) := by decide +kernel
theorem dX9_until_53 : decode cX9_until 53 = .ok (.aload_n 0, 1) := by decide +kernel
theorem dX9_until_54 : decode cX9_until 54 = .ok (.iload_n 1, 1) := by decide +kernel
theorem dX9_until_55 : decode cX9_until 55 = .ok (.invokevirtual 353, 3) := by decide +kernel
theorem dX9_until_58 : decode cX9_until 58 = .ok (.ifCond .eq 7, 3) := by decide +kernel
theorem dX9_until_61 : decode cX9_until 61 = .ok (.iconst (-1), 1) := by decide +kernel
theorem dX9_until_62 : decode cX9_until 62 = .ok (.goto 4, 3) := by decide +kernel
theorem dX9_until_65 : decode cX9_until 65 = .ok (.iload_n 2, 1) := by decide +kernel
theorem dX9_until_66 : decode cX9_until 66 = .ok (.istore_n 3, 1) := by decide +kernel
theorem dX9_until_67 : decode cX9_until 67 = .ok (.aload_n 0, 1) := by decide +kernel
theorem dX9_until_68 : decode cX9_until 68 = .ok (.invokevirtual 441, 3) := by decide +kernel
theorem dX9_until_71 : decode cX9_until 71 = .ok (.iload_n 3, 1) := by decide +kernel
theorem dX9_until_72 : decode cX9_until 72 = .ok (.ireturn, 1) := by decide +kernel
theorem dX9_power_0 : decode cX9_power 0 = .ok (.lconst 1, 1) := by decide +kernel
theorem dX9_power_1 : decode cX9_power 1 = .ok (.lstore_n 2, 1) := by decide +kernel
theorem dX9_power_2 : decode cX9_power 2 = .ok (.iconst 0, 1) := by decide +kernel
theorem dX9_power_3 : decode cX9_power 3 = .ok (.istore 4, 2) := by decide +kernel
theorem dX9_power_5 : decode cX9_power 5 = .ok (.iload 4, 2) := by decide +kernel
theorem dX9_power_7 : decode cX9_power 7 = .ok (.iload_n 1, 1) := by decide +kernel
theorem dX9_power_8 : decode cX9_power 8 = .ok (.if_icmp .ge 14, 3) := by decide +kernel
theorem dX9_power_11 : decode cX9_power 11 = .ok (.lload_n 2, 1) := by decide +kernel
theorem dX9_power_12 : decode cX9_power 12 = .ok (.iload_n 0, 1) := by decide +kernel
theorem dX9_power_13 : decode cX9_power 13 = .ok (.i2l, 1) := by decide +kernel
theorem dX9_power_14 : decode cX9_power 14 = .ok (.lmul, 1) := by decide +kernel
theorem dX9_power_15 : decode cX9_power 15 = .ok (.lstore_n 2, 1) := by decide +kernel
theorem dX9_power_16 : decode cX9_power 16 = .ok (.iinc 4 1, 3) := by decide +kernel
theorem dX9_power_19 : decode cX9_power 19 = .ok (.goto (-14), 3) := by decide +kernel
theorem dX9_power_22 : decode cX9_power 22 = .ok (.lload_n 2, 1) := by decide +kernel
theorem dX9_power_23 : decode cX9_power 23 = .ok (.lreturn, 1) := by decide +kernel
theorem dX9_common_0 : decode cX9_common 0 = .ok (.lload_n 0, 1) := by decide +kernel
theorem dX9_common_1 : decode cX9_common 1 = .ok (.lstore 4, 2) := by decide +kernel
theorem dX9_common_3 : decode cX9_common 3 = .ok (.lload_n 2, 1) := by decide +kernel
theorem dX9_common_4 : decode cX9_common 4 = .ok (.lstore 6, 2) := by decide +kernel
theorem dX9_common_6 : decode cX9_common 6 = .ok (.lload 6, 2) := by decide +kernel
theorem dX9_common_8 : decode cX9_common 8 = .ok (.lconst 0, 1) := by decide +kernel
theorem dX9_common_9 : decode cX9_common 9 = .ok (.lcmp, 1) := by decide +kernel
theorem dX9_common_10 : decode cX9_common 10 = .ok (.ifCond .eq 21, 3) := by decide +kernel
theorem dX9_common_13 : decode cX9_common 13 = .ok (.lload 4, 2) := by decide +kernel
theorem dX9_common_15 : decode cX9_common 15 = .ok (.lload 6, 2) := by decide +kernel
theorem dX9_common_17 : decode cX9_common 17 = .ok (.lrem, 1) := by decide +kernel
theorem dX9_common_18 : decode cX9_common 18 = .ok (.lstore 8, 2) := by decide +kernel
theorem dX9_common_20 : decode cX9_common 20 = .ok (.lload 6, 2) := by decide +kernel
theorem dX9_common_22 : decode cX9_common 22 = .ok (.lstore 4, 2) := by decide +kernel
theorem dX9_common_24 : decode cX9_common 24 = .ok (.lload 8, 2) := by decide +kernel
theorem dX9_common_26 : decode cX9_common 26 = .ok (.lstore 6, 2) := by decide +kernel
theorem dX9_common_28 : decode cX9_common 28 = .ok (.goto (-22), 3) := by decide +kernel
theorem dX9_common_31 : decode cX9_common 31 = .ok (.lload 4, 2) := by decide +kernel
theorem dX9_common_33 : decode cX9_common 33 = .ok (.lreturn, 1) := by decide +kernel
theorem dX9_isLaid_0 : decode cX9_isLaid 0 = .ok (.aload_n 0, 1) := by decide +kernel
theorem dX9_isLaid_1 : decode cX9_isLaid 1 = .ok (.iload_n 2, 1) := by decide +kernel
theorem dX9_isLaid_2 : decode cX9_isLaid 2 = .ok (.invokevirtual 371, 3) := by decide +kernel
theorem dX9_isLaid_5 : decode cX9_isLaid 5 = .ok (.ifCond .eq 30, 3) := by decide +kernel
theorem dX9_isLaid_8 : decode cX9_isLaid 8 = .ok (.iload_n 3, 1) := by decide +kernel
theorem dX9_isLaid_9 : decode cX9_isLaid 9 = .ok (.iconst 1, 1) := by decide +kernel
theorem dX9_isLaid_10 : decode cX9_isLaid 10 = .ok (.iconst 4, 1) := by decide +kernel
theorem dX9_isLaid_11 : decode cX9_isLaid 11 = .ok (.invokestatic 63, 3) := by decide +kernel
theorem dX9_isLaid_14 : decode cX9_isLaid 14 = .ok (.ifCond .eq 21, 3) := by decide +kernel
theorem dX9_isLaid_17 : decode cX9_isLaid 17 = .ok (.iload_n 2, 1) := by decide +kernel
theorem dX9_isLaid_18 : decode cX9_isLaid 18 = .ok (.aload_n 0, 1) := by decide +kernel
theorem dX9_isLaid_19 : decode cX9_isLaid 19 = .ok (.getfield 7, 3) := by decide +kernel
theorem dX9_isLaid_22 : decode cX9_isLaid 22 = .ok (.bipush 10, 2) := by decide +kernel
theorem dX9_isLaid_24 : decode cX9_isLaid 24 = .ok (.iaload, 1) := by decide +kernel
theorem dX9_isLaid_25 : decode cX9_isLaid 25 = .ok (.iconst (-1), 1) := by decide +kernel
theorem dX9_isLaid_26 : decode cX9_isLaid 26 = .ok (.ixor, 1) := by decide +kernel
theorem dX9_isLaid_27 : decode cX9_isLaid 27 = .ok (.iand, 1) := by decide +kernel
theorem dX9_isLaid_28 : decode cX9_isLaid 28 = .ok (.invokestatic 310, 3) := by decide +kernel
theorem dX9_isLaid_31 : decode cX9_isLaid 31 = .ok (.iconst 3, 1) := by decide +kernel
theorem dX9_isLaid_32 : decode cX9_isLaid 32 = .ok (.if_icmp .le 5, 3) := by decide +kernel
theorem dX9_isLaid_35 : decode cX9_isLaid 35 = .ok (.iconst 0, 1) := by decide +kernel
theorem dX9_isLaid_36 : decode cX9_isLaid 36 = .ok (.ireturn, 1) := by decide +kernel
theorem dX9_isLaid_37 : decode cX9_isLaid 37 = .ok (.aload_n 0, 1) := by decide +kernel
theorem dX9_isLaid_38 : decode cX9_isLaid 38 = .ok (.bipush 10, 2) := by decide +kernel
theorem dX9_isLaid_40 : decode cX9_isLaid 40 = .ok (.iload_n 3, 1) := by decide +kernel
theorem dX9_isLaid_41 : decode cX9_isLaid 41 = .ok (.iload_n 2, 1) := by decide +kernel
theorem dX9_isLaid_42 : decode cX9_isLaid 42 = .ok (.aload_n 0, 1) := by decide +kernel
theorem dX9_isLaid_43 : decode cX9_isLaid 43 = .ok (.getfield 7, 3) := by decide +kernel
theorem dX9_isLaid_46 : decode cX9_isLaid 46 = .ok (.bipush 10, 2) := by decide +kernel
theorem dX9_isLaid_48 : decode cX9_isLaid 48 = .ok (.iaload, 1) := by decide +kernel
theorem dX9_isLaid_49 : decode cX9_isLaid 49 = .ok (.iconst (-1), 1) := by decide +kernel
theorem dX9_isLaid_50 : decode cX9_isLaid 50 = .ok (.ixor, 1) := by decide +kernel
theorem dX9_isLaid_51 : decode cX9_isLaid 51 = .ok (.iand, 1) := by decide +kernel
theorem dX9_isLaid_52 : decode cX9_isLaid 52 = .ok (.invokestatic 310, 3) := by decide +kernel
theorem dX9_isLaid_55 : decode cX9_isLaid 55 = .ok (.imul, 1) := by decide +kernel
theorem dX9_isLaid_56 : decode cX9_isLaid 56 = .ok (.invokestatic 444, 3) := by decide +kernel
theorem dX9_isLaid_59 : decode cX9_isLaid 59 = .ok (.putfield 447, 3) := by decide +kernel
theorem dX9_isLaid_62 : decode cX9_isLaid 62 = .ok (.aload_n 0, 1) := by decide +kernel
theorem dX9_isLaid_63 : decode cX9_isLaid 63 = .ok (.lconst 1, 1) := by decide +kernel
theorem dX9_isLaid_64 : decode cX9_isLaid 64 = .ok (.putfield 450, 3) := by decide +kernel
theorem dX9_isLaid_67 : decode cX9_isLaid 67 = .ok (.iconst 0, 1) := by decide +kernel
theorem dX9_isLaid_68 : decode cX9_isLaid 68 = .ok (.istore 4, 2) := by decide +kernel
theorem dX9_isLaid_70 : decode cX9_isLaid 70 = .ok (.iload 4, 2) := by decide +kernel
theorem dX9_isLaid_72 : decode cX9_isLaid 72 = .ok (.aload_n 0, 1) := by decide +kernel
theorem dX9_isLaid_73 : decode cX9_isLaid 73 = .ok (.getfield 7, 3) := by decide +kernel
theorem dX9_isLaid_76 : decode cX9_isLaid 76 = .ok (.iconst 0, 1) := by decide +kernel
theorem dX9_isLaid_77 : decode cX9_isLaid 77 = .ok (.iaload, 1) := by decide +kernel
theorem dX9_isLaid_78 : decode cX9_isLaid 78 = .ok (.if_icmp .ge 79, 3) := by decide +kernel
theorem dX9_isLaid_81 : decode cX9_isLaid 81 = .ok (.iload_n 2, 1) := by decide +kernel
theorem dX9_isLaid_82 : decode cX9_isLaid 82 = .ok (.aload_n 0, 1) := by decide +kernel
theorem dX9_isLaid_83 : decode cX9_isLaid 83 = .ok (.getfield 7, 3) := by decide +kernel
theorem dX9_isLaid_86 : decode cX9_isLaid 86 = .ok (.bipush 10, 2) := by decide +kernel
theorem dX9_isLaid_88 : decode cX9_isLaid 88 = .ok (.iaload, 1) := by decide +kernel
theorem dX9_isLaid_89 : decode cX9_isLaid 89 = .ok (.iconst (-1), 1) := by decide +kernel
theorem dX9_isLaid_90 : decode cX9_isLaid 90 = .ok (.ixor, 1) := by decide +kernel
theorem dX9_isLaid_91 : decode cX9_isLaid 91 = .ok (.iand, 1) := by decide +kernel
theorem dX9_isLaid_92 : decode cX9_isLaid 92 = .ok (.iload 4, 2) := by decide +kernel
theorem dX9_isLaid_94 : decode cX9_isLaid 94 = .ok (.invokestatic 261, 3) := by decide +kernel
theorem dX9_isLaid_97 : decode cX9_isLaid 97 = .ok (.ifCond .ne 6, 3) := by decide +kernel
theorem dX9_isLaid_100 : decode cX9_isLaid 100 = .ok (.goto 51, 3) := by decide +kernel
theorem dX9_isLaid_103 : decode cX9_isLaid 103 = .ok (.bipush 10, 2) := by decide +kernel
theorem dX9_isLaid_105 : decode cX9_isLaid 105 = .ok (.aload_n 0, 1) := by decide +kernel
theorem dX9_isLaid_106 : decode cX9_isLaid 106 = .ok (.getfield 7, 3) := by decide +kernel
theorem dX9_isLaid_109 : decode cX9_isLaid 109 = .ok (.bipush 110, 2) := by decide +kernel
theorem dX9_isLaid_111 : decode cX9_isLaid 111 = .ok (.iconst 2, 1) := by decide +kernel
theorem dX9_isLaid_112 : decode cX9_isLaid 112 = .ok (.iload 4, 2) := by decide +kernel
theorem dX9_isLaid_114 : decode cX9_isLaid 114 = .ok (.imul, 1) := by decide +kernel
theorem dX9_isLaid_115 : decode cX9_isLaid 115 = .ok (.iadd, 1) := by decide +kernel
theorem dX9_isLaid_116 : decode cX9_isLaid 116 = .ok (.iaload, 1) := by decide +kernel
theorem dX9_isLaid_117 : decode cX9_isLaid 117 = .ok (.isub, 1) := by decide +kernel
theorem dX9_isLaid_118 : decode cX9_isLaid 118 = .ok (.iload_n 3, 1) := by decide +kernel
theorem dX9_isLaid_119 : decode cX9_isLaid 119 = .ok (.invokestatic 444, 3) := by decide +kernel
theorem dX9_isLaid_122 : decode cX9_isLaid 122 = .ok (.lstore 5, 2) := by decide +kernel
theorem dX9_isLaid_124 : decode cX9_isLaid 124 = .ok (.aload_n 0, 1) := by decide +kernel
theorem dX9_isLaid_125 : decode cX9_isLaid 125 = .ok (.dup, 1) := by decide +kernel
theorem dX9_isLaid_126 : decode cX9_isLaid 126 = .ok (.getfield 450, 3) := by decide +kernel
theorem dX9_isLaid_129 : decode cX9_isLaid 129 = .ok (.iload_n 1, 1) := by decide +kernel
theorem dX9_isLaid_130 : decode cX9_isLaid 130 = .ok (.ifCond .eq 15, 3) := by decide +kernel
theorem dX9_isLaid_133 : decode cX9_isLaid 133 = .ok (.bipush 10, 2) := by decide +kernel
theorem dX9_isLaid_135 : decode cX9_isLaid 135 = .ok (.iload_n 3, 1) := by decide +kernel
theorem dX9_isLaid_136 : decode cX9_isLaid 136 = .ok (.invokestatic 444, 3) := by decide +kernel
theorem dX9_isLaid_139 : decode cX9_isLaid 139 = .ok (.lload 5, 2) := by decide +kernel
theorem dX9_isLaid_141 : decode cX9_isLaid 141 = .ok (.lsub, 1) := by decide +kernel
theorem dX9_isLaid_142 : decode cX9_isLaid 142 = .ok (.goto 5, 3) := by decide +kernel
theorem dX9_isLaid_145 : decode cX9_isLaid 145 = .ok (.lload 5, 2) := by decide +kernel
theorem dX9_isLaid_147 : decode cX9_isLaid 147 = .ok (.lmul, 1) := by decide +kernel
theorem dX9_isLaid_148 : decode cX9_isLaid 148 = .ok (.putfield 450, 3) := by decide +kernel
theorem dX9_isLaid_151 : decode cX9_isLaid 151 = .ok (.iinc 4 1, 3) := by decide +kernel
theorem dX9_isLaid_154 : decode cX9_isLaid 154 = .ok (.goto (-84), 3) := by decide +kernel
theorem dX9_isLaid_157 : decode cX9_isLaid 157 = .ok (.iload_n 1, 1) := by decide +kernel
theorem dX9_isLaid_158 : decode cX9_isLaid 158 = .ok (.ifCond .ne 35, 3) := by decide +kernel
theorem dX9_isLaid_161 : decode cX9_isLaid 161 = .ok (.aload_n 0, 1) := by decide +kernel
theorem dX9_isLaid_162 : decode cX9_isLaid 162 = .ok (.iload_n 2, 1) := by decide +kernel
theorem dX9_isLaid_163 : decode cX9_isLaid 163 = .ok (.aload_n 0, 1) := by decide +kernel
theorem dX9_isLaid_164 : decode cX9_isLaid 164 = .ok (.getfield 7, 3) := by decide +kernel
theorem dX9_isLaid_167 : decode cX9_isLaid 167 = .ok (.bipush 10, 2) := by decide +kernel
theorem dX9_isLaid_169 : decode cX9_isLaid 169 = .ok (.iaload, 1) := by decide +kernel
theorem dX9_isLaid_170 : decode cX9_isLaid 170 = .ok (.iand, 1) := by decide +kernel
theorem dX9_isLaid_171 : decode cX9_isLaid 171 = .ok (.ifCond .eq 10, 3) := by decide +kernel
theorem dX9_isLaid_174 : decode cX9_isLaid 174 = .ok (.aload_n 0, 1) := by decide +kernel
theorem dX9_isLaid_175 : decode cX9_isLaid 175 = .ok (.getfield 447, 3) := by decide +kernel
theorem dX9_isLaid_178 : decode cX9_isLaid 178 = .ok (.goto 12, 3) := by decide +kernel
theorem dX9_isLaid_181 : decode cX9_isLaid 181 = .ok (.aload_n 0, 1) := by decide +kernel
theorem dX9_isLaid_182 : decode cX9_isLaid 182 = .ok (.getfield 447, 3) := by decide +kernel
theorem dX9_isLaid_185 : decode cX9_isLaid 185 = .ok (.aload_n 0, 1) := by decide +kernel
theorem dX9_isLaid_186 : decode cX9_isLaid 186 = .ok (.getfield 450, 3) := by decide +kernel
theorem dX9_isLaid_189 : decode cX9_isLaid 189 = .ok (.lsub, 1) := by decide +kernel
theorem dX9_isLaid_190 : decode cX9_isLaid 190 = .ok (.putfield 450, 3) := by decide +kernel
theorem dX9_isLaid_193 : decode cX9_isLaid 193 = .ok (.iconst 1, 1) := by decide +kernel
theorem dX9_isLaid_194 : decode cX9_isLaid 194 = .ok (.ireturn, 1) := by decide +kernel
theorem dX9_odds_0 : decode cX9_odds 0 = .ok (.aload_n 0, 1) := by decide +kernel
theorem dX9_odds_1 : decode cX9_odds 1 = .ok (.iload_n 1, 1) := by decide +kernel
theorem dX9_odds_2 : decode cX9_odds 2 = .ok (.iload_n 2, 1) := by decide +kernel
theorem dX9_odds_3 : decode cX9_odds 3 = .ok (.iload_n 3, 1) := by decide +kernel
theorem dX9_odds_4 : decode cX9_odds 4 = .ok (.invokevirtual 453, 3) := by decide +kernel
theorem dX9_odds_7 : decode cX9_odds 7 = .ok (.ifCond .ne 9, 3) := by decide +kernel
theorem dX9_odds_10 : decode cX9_odds 10 = .ok (.ldc2_w 456, 3) := by decide +kernel
theorem dX9_odds_13 : decode cX9_odds 13 = .ok (.goto 31, 3) := by decide +kernel
theorem dX9_odds_16 : decode cX9_odds 16 = .ok (.iload 4, 2) := by decide +kernel
theorem dX9_odds_18 : decode cX9_odds 18 = .ok (.ifCond .eq 10, 3) := by decide +kernel
theorem dX9_odds_21 : decode cX9_odds 21 = .ok (.aload_n 0, 1) := by decide +kernel
theorem dX9_odds_22 : decode cX9_odds 22 = .ok (.getfield 447, 3) := by decide +kernel
theorem dX9_odds_25 : decode cX9_odds 25 = .ok (.goto 7, 3) := by decide +kernel
theorem dX9_odds_28 : decode cX9_odds 28 = .ok (.aload_n 0, 1) := by decide +kernel
theorem dX9_odds_29 : decode cX9_odds 29 = .ok (.getfield 450, 3) := by decide +kernel
theorem dX9_odds_32 : decode cX9_odds 32 = .ok (.aload_n 0, 1) := by decide +kernel
theorem dX9_odds_33 : decode cX9_odds 33 = .ok (.getfield 450, 3) := by decide +kernel
theorem dX9_odds_36 : decode cX9_odds 36 = .ok (.aload_n 0, 1) := by decide +kernel
theorem dX9_odds_37 : decode cX9_odds 37 = .ok (.getfield 447, 3) := by decide +kernel
theorem dX9_odds_40 : decode cX9_odds 40 = .ok (.invokestatic 458, 3) := by decide +kernel
theorem dX9_odds_43 : decode cX9_odds 43 = .ok (.ldiv, 1) := by decide +kernel
theorem dX9_odds_44 : decode cX9_odds 44 = .ok (.lreturn, 1) := by decide +kernel
theorem dX9_fair_0 : decode cX9_fair 0 = .ok (.iload 4, 2) := by decide +kernel
theorem dX9_fair_2 : decode cX9_fair 2 = .ok (.iconst 0, 1) := by decide +kernel
theorem dX9_fair_3 : decode cX9_fair 3 = .ok (.sipush 999, 3) := by decide +kernel
theorem dX9_fair_6 : decode cX9_fair 6 = .ok (.invokestatic 63, 3) := by decide +kernel
theorem dX9_fair_9 : decode cX9_fair 9 = .ok (.ifCond .eq 13, 3) := by decide +kernel
theorem dX9_fair_12 : decode cX9_fair 12 = .ok (.aload_n 0, 1) := by decide +kernel
theorem dX9_fair_13 : decode cX9_fair 13 = .ok (.iload_n 1, 1) := by decide +kernel
theorem dX9_fair_14 : decode cX9_fair 14 = .ok (.iload_n 2, 1) := by decide +kernel
theorem dX9_fair_15 : decode cX9_fair 15 = .ok (.iload_n 3, 1) := by decide +kernel
theorem dX9_fair_16 : decode cX9_fair 16 = .ok (.invokevirtual 453, 3) := by decide +kernel
theorem dX9_fair_19 : decode cX9_fair 19 = .ok (.ifCond .ne 7, 3) := by decide +kernel
theorem dX9_fair_22 : decode cX9_fair 22 = .ok (.ldc2_w 456, 3) := by decide +kernel
theorem dX9_fair_25 : decode cX9_fair 25 = .ok (.lreturn, 1) := by decide +kernel
theorem dX9_fair_26 : decode cX9_fair 26 = .ok (.iload 4, 2) := by decide +kernel
theorem dX9_fair_28 : decode cX9_fair 28 = .ok (.i2l, 1) := by decide +kernel
theorem dX9_fair_29 : decode cX9_fair 29 = .ok (.aload_n 0, 1) := by decide +kernel
