theorem dX12_readKind_121 : decode cX12_readKind 121 = .ok (.aload_n 0, 1) := by decide +kernel
theorem dX12_readKind_122 : decode cX12_readKind 122 = .ok (.getfield 26, 3) := by decide +kernel
theorem dX12_readKind_125 : decode cX12_readKind 125 = .ok (.iload_n 1, 1) := by decide +kernel
theorem dX12_readKind_126 : decode cX12_readKind 126 = .ok (.aload_n 0, 1) := by decide +kernel
theorem dX12_readKind_127 : decode cX12_readKind 127 = .ok (.aload_n 0, 1) := by decide +kernel
theorem dX12_readKind_128 : decode cX12_readKind 128 = .ok (.invokevirtual 254, 3) := by decide +kernel
theorem dX12_readKind_131 : decode cX12_readKind 131 = .ok (.iload_n 1, 1) := by decide +kernel
theorem dX12_readKind_132 : decode cX12_readKind 132 = .ok (.invokevirtual 342, 3) := by decide +kernel
theorem dX12_readKind_135 : decode cX12_readKind 135 = .ok (.iastore, 1) := by decide +kernel
theorem dX12_readKind_136 : decode cX12_readKind 136 = .ok (.aload_n 0, 1) := by decide +kernel
theorem dX12_readKind_137 : decode cX12_readKind 137 = .ok (.getfield 26, 3) := by decide +kernel
theorem dX12_readKind_140 : decode cX12_readKind 140 = .ok (.iload_n 1, 1) := by decide +kernel
theorem dX12_readKind_141 : decode cX12_readKind 141 = .ok (.iaload, 1) := by decide +kernel
theorem dX12_readKind_142 : decode cX12_readKind 142 = .ok (.ifCond .ge 12, 3) := by decide +kernel
theorem dX12_readKind_145 : decode cX12_readKind 145 = .ok (.aload_n 0, 1) := by decide +kernel
theorem dX12_readKind_146 : decode cX12_readKind 146 = .ok (.iconst 2, 1) := by decide +kernel
theorem dX12_readKind_147 : decode cX12_readKind 147 = .ok (.aload_n 0, 1) := by decide +kernel
theorem dX12_readKind_148 : decode cX12_readKind 148 = .ok (.getfield 212, 3) := by decide +kernel
theorem dX12_readKind_151 : decode cX12_readKind 151 = .ok (.invokevirtual 333, 3) := by decide +kernel
theorem dX12_readKind_154 : decode cX12_readKind 154 = .ok (.aload_n 0, 1) := by decide +kernel
theorem dX12_readKind_155 : decode cX12_readKind 155 = .ok (.getfield 23, 3) := by decide +kernel
theorem dX12_readKind_158 : decode cX12_readKind 158 = .ok (.iload_n 1, 1) := by decide +kernel
theorem dX12_readKind_159 : decode cX12_readKind 159 = .ok (.aload_n 0, 1) := by decide +kernel
theorem dX12_readKind_160 : decode cX12_readKind 160 = .ok (.getfield 313, 3) := by decide +kernel
theorem dX12_readKind_163 : decode cX12_readKind 163 = .ok (.iastore, 1) := by decide +kernel
theorem dX12_readKind_164 : decode cX12_readKind 164 = .ok (.aload_n 0, 1) := by decide +kernel
theorem dX12_readKind_165 : decode cX12_readKind 165 = .ok (.getfield 29, 3) := by decide +kernel
theorem dX12_readKind_168 : decode cX12_readKind 168 = .ok (.iload_n 1, 1) := by decide +kernel
theorem dX12_readKind_169 : decode cX12_readKind 169 = .ok (.aload_n 0, 1) := by decide +kernel
theorem dX12_readKind_170 : decode cX12_readKind 170 = .ok (.getfield 330, 3) := by decide +kernel
theorem dX12_readKind_173 : decode cX12_readKind 173 = .ok (.iastore, 1) := by decide +kernel
theorem dX12_readKind_174 : decode cX12_readKind 174 = .ok (.iconst 0, 1) := by decide +kernel
theorem dX12_readKind_175 : decode cX12_readKind 175 = .ok (.istore_n 2, 1) := by decide +kernel
theorem dX12_readKind_176 : decode cX12_readKind 176 = .ok (.iload_n 2, 1) := by decide +kernel
theorem dX12_readKind_177 : decode cX12_readKind 177 = .ok (.bipush 6, 2) := by decide +kernel
theorem dX12_readKind_179 : decode cX12_readKind 179 = .ok (.if_icmp .ge 21, 3) := by decide +kernel
theorem dX12_readKind_182 : decode cX12_readKind 182 = .ok (.aload_n 0, 1) := by decide +kernel
theorem dX12_readKind_183 : decode cX12_readKind 183 = .ok (.getfield 32, 3) := by decide +kernel
theorem dX12_readKind_186 : decode cX12_readKind 186 = .ok (.bipush 6, 2) := by decide +kernel
theorem dX12_readKind_188 : decode cX12_readKind 188 = .ok (.iload_n 1, 1) := by decide +kernel
theorem dX12_readKind_189 : decode cX12_readKind 189 = .ok (.imul, 1) := by decide +kernel
theorem dX12_readKind_190 : decode cX12_readKind 190 = .ok (.iload_n 2, 1) := by decide +kernel
theorem dX12_readKind_191 : decode cX12_readKind 191 = .ok (.iadd, 1) := by decide +kernel
theorem dX12_readKind_192 : decode cX12_readKind 192 = .ok (.iconst 0, 1) := by decide +kernel
theorem dX12_readKind_193 : decode cX12_readKind 193 = .ok (.bastore, 1) := by decide +kernel
theorem dX12_readKind_194 : decode cX12_readKind 194 = .ok (.iinc 2 1, 3) := by decide +kernel
theorem dX12_readKind_197 : decode cX12_readKind 197 = .ok (.goto (-21), 3) := by decide +kernel
theorem dX12_readKind_200 : decode cX12_readKind 200 = .ok (.aload_n 0, 1) := by decide +kernel
theorem dX12_readKind_201 : decode cX12_readKind 201 = .ok (.dup, 1) := by decide +kernel
theorem dX12_readKind_202 : decode cX12_readKind 202 = .ok (.getfield 339, 3) := by decide +kernel
theorem dX12_readKind_205 : decode cX12_readKind 205 = .ok (.iconst 1, 1) := by decide +kernel
theorem dX12_readKind_206 : decode cX12_readKind 206 = .ok (.iadd, 1) := by decide +kernel
theorem dX12_readKind_207 : decode cX12_readKind 207 = .ok (.putfield 339, 3) := by decide +kernel
theorem dX12_readKind_210 : decode cX12_readKind 210 = .ok (.aload_n 0, 1) := by decide +kernel
theorem dX12_readKind_211 : decode cX12_readKind 211 = .ok (.invokevirtual 284, 3) := by decide +kernel
theorem dX12_readKind_214 : decode cX12_readKind 214 = .ok (.aload_n 0, 1) := by decide +kernel
theorem dX12_readKind_215 : decode cX12_readKind 215 = .ok (.ldc_w 321, 3) := by decide +kernel
theorem dX12_readKind_218 : decode cX12_readKind 218 = .ok (.invokevirtual 302, 3) := by decide +kernel
theorem dX12_readKind_221 : decode cX12_readKind 221 = .ok (.ifCond .ne 5, 3) := by decide +kernel
theorem dX12_readKind_224 : decode cX12_readKind 224 = .ok (.iconst 0, 1) := by decide +kernel
theorem dX12_readKind_225 : decode cX12_readKind 225 = .ok (.ireturn, 1) := by decide +kernel
theorem dX12_readKind_226 : decode cX12_readKind 226 = .ok (.aload_n 0, 1) := by decide +kernel
theorem dX12_readKind_227 : decode cX12_readKind 227 = .ok (.ldc_w 326, 3) := by decide +kernel
theorem dX12_readKind_230 : decode cX12_readKind 230 = .ok (.invokevirtual 263, 3) := by decide +kernel
theorem dX12_readKind_233 : decode cX12_readKind 233 = .ok (.ifCond .ne 13, 3) := by decide +kernel
theorem dX12_readKind_236 : decode cX12_readKind 236 = .ok (.aload_n 0, 1) := by decide +kernel
theorem dX12_readKind_237 : decode cX12_readKind 237 = .ok (.iload_n 1, 1) := by decide +kernel
theorem dX12_readKind_238 : decode cX12_readKind 238 = .ok (.invokevirtual 348, 3) := by decide +kernel
theorem dX12_readKind_241 : decode cX12_readKind 241 = .ok (.ifCond .ne (-15), 3) := by decide +kernel
theorem dX12_readKind_244 : decode cX12_readKind 244 = .ok (.iconst 0, 1) := by decide +kernel
theorem dX12_readKind_245 : decode cX12_readKind 245 = .ok (.ireturn, 1) := by decide +kernel
theorem dX12_readKind_246 : decode cX12_readKind 246 = .ok (.aload_n 0, 1) := by decide +kernel
theorem dX12_readKind_247 : decode cX12_readKind 247 = .ok (.invokevirtual 284, 3) := by decide +kernel
theorem dX12_readKind_250 : decode cX12_readKind 250 = .ok (.iconst 1, 1) := by decide +kernel
theorem dX12_readKind_251 : decode cX12_readKind 251 = .ok (.ireturn, 1) := by decide +kernel
theorem dX12_readBody_0 : decode cX12_readBody 0 = .ok (.aload_n 0, 1) := by decide +kernel
theorem dX12_readBody_1 : decode cX12_readBody 1 = .ok (.ldc_w 351, 3) := by decide +kernel
theorem dX12_readBody_4 : decode cX12_readBody 4 = .ok (.invokevirtual 263, 3) := by decide +kernel
theorem dX12_readBody_7 : decode cX12_readBody 7 = .ok (.ifCond .eq 7, 3) := by decide +kernel
theorem dX12_readBody_10 : decode cX12_readBody 10 = .ok (.iconst 0, 1) := by decide +kernel
theorem dX12_readBody_11 : decode cX12_readBody 11 = .ok (.goto 18, 3) := by decide +kernel
theorem dX12_readBody_14 : decode cX12_readBody 14 = .ok (.aload_n 0, 1) := by decide +kernel
theorem dX12_readBody_15 : decode cX12_readBody 15 = .ok (.ldc_w 353, 3) := by decide +kernel
theorem dX12_readBody_18 : decode cX12_readBody 18 = .ok (.invokevirtual 263, 3) := by decide +kernel
theorem dX12_readBody_21 : decode cX12_readBody 21 = .ok (.ifCond .eq 7, 3) := by decide +kernel
theorem dX12_readBody_24 : decode cX12_readBody 24 = .ok (.iconst 1, 1) := by decide +kernel
theorem dX12_readBody_25 : decode cX12_readBody 25 = .ok (.goto 4, 3) := by decide +kernel
theorem dX12_readBody_28 : decode cX12_readBody 28 = .ok (.iconst 2, 1) := by decide +kernel
theorem dX12_readBody_29 : decode cX12_readBody 29 = .ok (.istore_n 2, 1) := by decide +kernel
theorem dX12_readBody_30 : decode cX12_readBody 30 = .ok (.iload_n 2, 1) := by decide +kernel
theorem dX12_readBody_31 : decode cX12_readBody 31 = .ok (.iconst 2, 1) := by decide +kernel
theorem dX12_readBody_32 : decode cX12_readBody 32 = .ok (.if_icmp .eq 7, 3) := by decide +kernel
theorem dX12_readBody_35 : decode cX12_readBody 35 = .ok (.aload_n 0, 1) := by decide +kernel
theorem dX12_readBody_36 : decode cX12_readBody 36 = .ok (.invokevirtual 284, 3) := by decide +kernel
theorem dX12_readBody_39 : decode cX12_readBody 39 = .ok (.aload_n 0, 1) := by decide +kernel
theorem dX12_readBody_40 : decode cX12_readBody 40 = .ok (.ldc_w 355, 3) := by decide +kernel
theorem dX12_readBody_43 : decode cX12_readBody 43 = .ok (.invokevirtual 263, 3) := by decide +kernel
theorem dX12_readBody_46 : decode cX12_readBody 46 = .ok (.istore_n 3, 1) := by decide +kernel
theorem dX12_readBody_47 : decode cX12_readBody 47 = .ok (.iload_n 3, 1) := by decide +kernel
theorem dX12_readBody_48 : decode cX12_readBody 48 = .ok (.ifCond .eq 7, 3) := by decide +kernel
theorem dX12_readBody_51 : decode cX12_readBody 51 = .ok (.aload_n 0, 1) := by decide +kernel
theorem dX12_readBody_52 : decode cX12_readBody 52 = .ok (.invokevirtual 284, 3) := by decide +kernel
theorem dX12_readBody_55 : decode cX12_readBody 55 = .ok (.aload_n 0, 1) := by decide +kernel
theorem dX12_readBody_56 : decode cX12_readBody 56 = .ok (.invokevirtual 356, 3) := by decide +kernel
theorem dX12_readBody_59 : decode cX12_readBody 59 = .ok (.istore 4, 2) := by decide +kernel
theorem dX12_readBody_61 : decode cX12_readBody 61 = .ok (.iload 4, 2) := by decide +kernel
theorem dX12_readBody_63 : decode cX12_readBody 63 = .ok (.ifCond .ge 12, 3) := by decide +kernel
theorem dX12_readBody_66 : decode cX12_readBody 66 = .ok (.aload_n 0, 1) := by decide +kernel
theorem dX12_readBody_67 : decode cX12_readBody 67 = .ok (.aload_n 0, 1) := by decide +kernel
theorem dX12_readBody_68 : decode cX12_readBody 68 = .ok (.getfield 212, 3) := by decide +kernel
theorem dX12_readBody_71 : decode cX12_readBody 71 = .ok (.invokevirtual 281, 3) := by decide +kernel
theorem dX12_readBody_74 : decode cX12_readBody 74 = .ok (.ireturn, 1) := by decide +kernel
theorem dX12_readBody_75 : decode cX12_readBody 75 = .ok (.aload_n 0, 1) := by decide +kernel
theorem dX12_readBody_76 : decode cX12_readBody 76 = .ok (.iload_n 1, 1) := by decide +kernel
theorem dX12_readBody_77 : decode cX12_readBody 77 = .ok (.iload 4, 2) := by decide +kernel
theorem dX12_readBody_79 : decode cX12_readBody 79 = .ok (.invokevirtual 196, 3) := by decide +kernel
theorem dX12_readBody_82 : decode cX12_readBody 82 = .ok (.istore 5, 2) := by decide +kernel
theorem dX12_readBody_84 : decode cX12_readBody 84 = .ok (.iload 5, 2) := by decide +kernel
theorem dX12_readBody_86 : decode cX12_readBody 86 = .ok (.ifCond .eq 12, 3) := by decide +kernel
theorem dX12_readBody_89 : decode cX12_readBody 89 = .ok (.aload_n 0, 1) := by decide +kernel
theorem dX12_readBody_90 : decode cX12_readBody 90 = .ok (.iconst 3, 1) := by decide +kernel
theorem dX12_readBody_91 : decode cX12_readBody 91 = .ok (.aload_n 0, 1) := by decide +kernel
theorem dX12_readBody_92 : decode cX12_readBody 92 = .ok (.getfield 212, 3) := by decide +kernel
theorem dX12_readBody_95 : decode cX12_readBody 95 = .ok (.invokevirtual 333, 3) := by decide +kernel
theorem dX12_readBody_98 : decode cX12_readBody 98 = .ok (.aload_n 0, 1) := by decide +kernel
theorem dX12_readBody_99 : decode cX12_readBody 99 = .ok (.getfield 85, 3) := by decide +kernel
theorem dX12_readBody_102 : decode cX12_readBody 102 = .ok (.aload_n 0, 1) := by decide +kernel
theorem dX12_readBody_103 : decode cX12_readBody 103 = .ok (.getfield 359, 3) := by decide +kernel
theorem dX12_readBody_106 : decode cX12_readBody 106 = .ok (.iload_n 1, 1) := by decide +kernel
theorem dX12_readBody_107 : decode cX12_readBody 107 = .ok (.iastore, 1) := by decide +kernel
theorem dX12_readBody_108 : decode cX12_readBody 108 = .ok (.aload_n 0, 1) := by decide +kernel
theorem dX12_readBody_109 : decode cX12_readBody 109 = .ok (.getfield 88, 3) := by decide +kernel
theorem dX12_readBody_112 : decode cX12_readBody 112 = .ok (.aload_n 0, 1) := by decide +kernel
theorem dX12_readBody_113 : decode cX12_readBody 113 = .ok (.getfield 359, 3) := by decide +kernel
theorem dX12_readBody_116 : decode cX12_readBody 116 = .ok (.iload 4, 2) := by decide +kernel
theorem dX12_readBody_118 : decode cX12_readBody 118 = .ok (.iastore, 1) := by decide +kernel
theorem dX12_readBody_119 : decode cX12_readBody 119 = .ok (.aload_n 0, 1) := by decide +kernel
theorem dX12_readBody_120 : decode cX12_readBody 120 = .ok (.getfield 91, 3) := by decide +kernel
theorem dX12_readBody_123 : decode cX12_readBody 123 = .ok (.aload_n 0, 1) := by decide +kernel
theorem dX12_readBody_124 : decode cX12_readBody 124 = .ok (.getfield 359, 3) := by decide +kernel
theorem dX12_readBody_127 : decode cX12_readBody 127 = .ok (.aload_n 0, 1) := by decide +kernel
theorem dX12_readBody_128 : decode cX12_readBody 128 = .ok (.getfield 212, 3) := by decide +kernel
theorem dX12_readBody_131 : decode cX12_readBody 131 = .ok (.iastore, 1) := by decide +kernel
theorem dX12_readBody_132 : decode cX12_readBody 132 = .ok (.aload_n 0, 1) := by decide +kernel
theorem dX12_readBody_133 : decode cX12_readBody 133 = .ok (.dup, 1) := by decide +kernel
theorem dX12_readBody_134 : decode cX12_readBody 134 = .ok (.getfield 359, 3) := by decide +kernel
theorem dX12_readBody_137 : decode cX12_readBody 137 = .ok (.iconst 1, 1) := by decide +kernel
theorem dX12_readBody_138 : decode cX12_readBody 138 = .ok (.iadd, 1) := by decide +kernel
theorem dX12_readBody_139 : decode cX12_readBody 139 = .ok (.putfield 359, 3) := by decide +kernel
theorem dX12_readBody_142 : decode cX12_readBody 142 = .ok (.aload_n 0, 1) := by decide +kernel
theorem dX12_readBody_143 : decode cX12_readBody 143 = .ok (.invokevirtual 284, 3) := by decide +kernel
theorem dX12_readBody_146 : decode cX12_readBody 146 = .ok (.aload_n 0, 1) := by decide +kernel
theorem dX12_readBody_147 : decode cX12_readBody 147 = .ok (.iconst 0, 1) := by decide +kernel
theorem dX12_readBody_148 : decode cX12_readBody 148 = .ok (.putfield 362, 3) := by decide +kernel
theorem dX12_readBody_151 : decode cX12_readBody 151 = .ok (.aload_n 0, 1) := by decide +kernel
theorem dX12_readBody_152 : decode cX12_readBody 152 = .ok (.iload_n 1, 1) := by decide +kernel
theorem dX12_readBody_153 : decode cX12_readBody 153 = .ok (.iload 4, 2) := by decide +kernel
theorem dX12_readBody_155 : decode cX12_readBody 155 = .ok (.iconst 1, 1) := by decide +kernel
theorem dX12_readBody_156 : decode cX12_readBody 156 = .ok (.invokevirtual 365, 3) := by decide +kernel
theorem dX12_readBody_159 : decode cX12_readBody 159 = .ok (.istore 6, 2) := by decide +kernel
theorem dX12_readBody_161 : decode cX12_readBody 161 = .ok (.iload 6, 2) := by decide +kernel
theorem dX12_readBody_163 : decode cX12_readBody 163 = .ok (.bipush (-2), 2) := by decide +kernel
theorem dX12_readBody_165 : decode cX12_readBody 165 = .ok (.if_icmp .ne 5, 3) := by decide +kernel
theorem dX12_readBody_168 : decode cX12_readBody 168 = .ok (.iconst 0, 1) := by decide +kernel
theorem dX12_readBody_169 : decode cX12_readBody 169 = .ok (.ireturn, 1) := by decide +kernel
theorem dX12_readBody_170 : decode cX12_readBody 170 = .ok (.iload 5, 2) := by decide +kernel
theorem dX12_readBody_172 : decode cX12_readBody 172 = .ok (.ifCond .ne 18, 3) := by decide +kernel
theorem dX12_readBody_175 : decode cX12_readBody 175 = .ok (.aload_n 0, 1) := by decide +kernel
theorem dX12_readBody_176 : decode cX12_readBody 176 = .ok (.iload_n 1, 1) := by decide +kernel
theorem dX12_readBody_177 : decode cX12_readBody 177 = .ok (.iload 4, 2) := by decide +kernel
theorem dX12_readBody_179 : decode cX12_readBody 179 = .ok (.iload_n 2, 1) := by decide +kernel
theorem dX12_readBody_180 : decode cX12_readBody 180 = .ok (.iload_n 3, 1) := by decide +kernel
theorem dX12_readBody_181 : decode cX12_readBody 181 = .ok (.iload 6, 2) := by decide +kernel
theorem dX12_readBody_183 : decode cX12_readBody 183 = .ok (.aload_n 0, 1) := by decide +kernel
theorem dX12_readBody_184 : decode cX12_readBody 184 = .ok (.getfield 362, 3) := by decide +kernel
theorem dX12_readBody_187 : decode cX12_readBody 187 = .ok (.invokevirtual 165, 3) := by decide +kernel
theorem dX12_readBody_190 : decode cX12_readBody 190 = .ok (.iconst 1, 1) := by decide +kernel
theorem dX12_readBody_191 : decode cX12_readBody 191 = .ok (.ireturn, 1) := by decide +kernel
theorem dX12_readActions_0 : decode cX12_readActions 0 = .ok (.aload_n 0, 1) := by decide +kernel
theorem dX12_readActions_1 : decode cX12_readActions 1 = .ok (.ldc_w 321, 3) := by decide +kernel
theorem dX12_readActions_4 : decode cX12_readActions 4 = .ok (.invokevirtual 263, 3) := by decide +kernel
theorem dX12_readActions_7 : decode cX12_readActions 7 = .ok (.ifCond .eq 9, 3) := by decide +kernel
theorem dX12_readActions_10 : decode cX12_readActions 10 = .ok (.iload_n 3, 1) := by decide +kernel
theorem dX12_readActions_11 : decode cX12_readActions 11 = .ok (.bipush 6, 2) := by decide +kernel
theorem dX12_readActions_13 : decode cX12_readActions 13 = .ok (.if_icmp .le 15, 3) := by decide +kernel
theorem dX12_readActions_16 : decode cX12_readActions 16 = .ok (.aload_n 0, 1) := by decide +kernel
theorem dX12_readActions_17 : decode cX12_readActions 17 = .ok (.aload_n 0, 1) := by decide +kernel
theorem dX12_readActions_18 : decode cX12_readActions 18 = .ok (.getfield 212, 3) := by decide +kernel
theorem dX12_readActions_21 : decode cX12_readActions 21 = .ok (.invokevirtual 281, 3) := by decide +kernel
theorem dX12_readActions_24 : decode cX12_readActions 24 = .ok (.pop, 1) := by decide +kernel
theorem dX12_readActions_25 : decode cX12_readActions 25 = .ok (.bipush (-2), 2) := by decide +kernel
theorem dX12_readActions_27 : decode cX12_readActions 27 = .ok (.ireturn, 1) := by decide +kernel
theorem dX12_readActions_28 : decode cX12_readActions 28 = .ok (.aload_n 0, 1) := by decide +kernel
theorem dX12_readActions_29 : decode cX12_readActions 29 = .ok (.invokevirtual 284, 3) := by decide +kernel
theorem dX12_readActions_32 : decode cX12_readActions 32 = .ok (.iconst (-1), 1) := by decide +kernel
theorem dX12_readActions_33 : decode cX12_readActions 33 = .ok (.istore 4, 2) := by decide +kernel
theorem dX12_readActions_35 : decode cX12_readActions 35 = .ok (.iconst (-1), 1) := by decide +kernel
theorem dX12_readActions_36 : decode cX12_readActions 36 = .ok (.istore 5, 2) := by decide +kernel
theorem dX12_readActions_38 : decode cX12_readActions 38 = .ok (.aload_n 0, 1) := by decide +kernel
theorem dX12_readActions_39 : decode cX12_readActions 39 = .ok (.ldc_w 326, 3) := by decide +kernel
theorem dX12_readActions_42 : decode cX12_readActions 42 = .ok (.invokevirtual 263, 3) := by decide +kernel
theorem dX12_readActions_45 : decode cX12_readActions 45 = .ok (.ifCond .ne 48, 3) := by decide +kernel
theorem dX12_readActions_48 : decode cX12_readActions 48 = .ok (.aload_n 0, 1) := by decide +kernel
theorem dX12_readActions_49 : decode cX12_readActions 49 = .ok (.iload_n 1, 1) := by decide +kernel
theorem dX12_readActions_50 : decode cX12_readActions 50 = .ok (.iload_n 2, 1) := by decide +kernel
theorem dX12_readActions_51 : decode cX12_readActions 51 = .ok (.iload_n 3, 1) := by decide +kernel
theorem dX12_readActions_52 : decode cX12_readActions 52 = .ok (.invokevirtual 369, 3) := by decide +kernel
theorem dX12_readActions_55 : decode cX12_readActions 55 = .ok (.istore 6, 2) := by decide +kernel
theorem dX12_readActions_57 : decode cX12_readActions 57 = .ok (.iload 6, 2) := by decide +kernel
theorem dX12_readActions_59 : decode cX12_readActions 59 = .ok (.ifCond .ge 6, 3) := by decide +kernel
theorem dX12_readActions_62 : decode cX12_readActions 62 = .ok (.bipush (-2), 2) := by decide +kernel
theorem dX12_readActions_64 : decode cX12_readActions 64 = .ok (.ireturn, 1) := by decide +kernel
theorem dX12_readActions_65 : decode cX12_readActions 65 = .ok (.iload 5, 2) := by decide +kernel
theorem dX12_readActions_67 : decode cX12_readActions 67 = .ok (.ifCond .ge 10, 3) := by decide +kernel
theorem dX12_readActions_70 : decode cX12_readActions 70 = .ok (.iload 6, 2) := by decide +kernel
theorem dX12_readActions_72 : decode cX12_readActions 72 = .ok (.istore 4, 2) := by decide +kernel
theorem dX12_readActions_74 : decode cX12_readActions 74 = .ok (.goto 12, 3) := by decide +kernel
theorem dX12_readActions_77 : decode cX12_readActions 77 = .ok (.aload_n 0, 1) := by decide +kernel
theorem dX12_readActions_78 : decode cX12_readActions 78 = .ok (.getfield 60, 3) := by decide +kernel
theorem dX12_readActions_81 : decode cX12_readActions 81 = .ok (.iload 5, 2) := by decide +kernel
theorem dX12_readActions_83 : decode cX12_readActions 83 = .ok (.iload 6, 2) := by decide +kernel
theorem dX12_readActions_85 : decode cX12_readActions 85 = .ok (.iastore, 1) := by decide +kernel
theorem dX12_readActions_86 : decode cX12_readActions 86 = .ok (.iload 6, 2) := by decide +kernel
theorem dX12_readActions_88 : decode cX12_readActions 88 = .ok (.istore 5, 2) := by decide +kernel
theorem dX12_readActions_90 : decode cX12_readActions 90 = .ok (.goto (-52), 3) := by decide +kernel
theorem dX12_readActions_93 : decode cX12_readActions 93 = .ok (.aload_n 0, 1) := by decide +kernel
theorem dX12_readActions_94 : decode cX12_readActions 94 = .ok (.invokevirtual 284, 3) := by decide +kernel
theorem dX12_readActions_97 : decode cX12_readActions 97 = .ok (.iload 4, 2) := by decide +kernel
theorem dX12_readActions_99 : decode cX12_readActions 99 = .ok (.ireturn, 1) := by decide +kernel
theorem dX12_op_0 : decode cX12_op 0 = .ok (.aload_n 0, 1) := by decide +kernel
theorem dX12_op_1 : decode cX12_op 1 = .ok (.ldc_w 372, 3) := by decide +kernel
theorem dX12_op_4 : decode cX12_op 4 = .ok (.invokevirtual 263, 3) := by decide +kernel
theorem dX12_op_7 : decode cX12_op 7 = .ok (.ifCond .eq 7, 3) := by decide +kernel
theorem dX12_op_10 : decode cX12_op 10 = .ok (.iconst 1, 1) := by decide +kernel
theorem dX12_op_11 : decode cX12_op 11 = .ok (.goto 135, 3) := by decide +kernel
theorem dX12_op_14 : decode cX12_op 14 = .ok (.aload_n 0, 1) := by decide +kernel
theorem dX12_op_15 : decode cX12_op 15 = .ok (.ldc_w 374, 3) := by decide +kernel
theorem dX12_op_18 : decode cX12_op 18 = .ok (.invokevirtual 263, 3) := by decide +kernel
theorem dX12_op_21 : decode cX12_op 21 = .ok (.ifCond .eq 7, 3) := by decide +kernel
theorem dX12_op_24 : decode cX12_op 24 = .ok (.iconst 2, 1) := by decide +kernel
theorem dX12_op_25 : decode cX12_op 25 = .ok (.goto 121, 3) := by decide +kernel
theorem dX12_op_28 : decode cX12_op 28 = .ok (.aload_n 0, 1) := by decide +kernel
theorem dX12_op_29 : decode cX12_op 29 = .ok (.ldc_w 376, 3) := by decide +kernel
theorem dX12_op_32 : decode cX12_op 32 = .ok (.invokevirtual 263, 3) := by decide +kernel
theorem dX12_op_35 : decode cX12_op 35 = .ok (.ifCond .eq 7, 3) := by decide +kernel
theorem dX12_op_38 : decode cX12_op 38 = .ok (.iconst 3, 1) := by decide +kernel
theorem dX12_op_39 : decode cX12_op 39 = .ok (.goto 107, 3) := by decide +kernel
theorem dX12_op_42 : decode cX12_op 42 = .ok (.aload_n 0, 1) := by decide +kernel
theorem dX12_op_43 : decode cX12_op 43 = .ok (.ldc_w 377, 3) := by decide +kernel
theorem dX12_op_46 : decode cX12_op 46 = .ok (.invokevirtual 263, 3) := by decide +kernel
theorem dX12_op_49 : decode cX12_op 49 = .ok (.ifCond .eq 7, 3) := by decide +kernel
theorem dX12_op_52 : decode cX12_op 52 = .ok (.iconst 4, 1) := by decide +kernel
theorem dX12_op_53 : decode cX12_op 53 = .ok (.goto 93, 3) := by decide +kernel
theorem dX12_op_56 : decode cX12_op 56 = .ok (.aload_n 0, 1) := by decide +kernel
theorem dX12_op_57 : decode cX12_op 57 = .ok (.ldc_w 379, 3) := by decide +kernel
theorem dX12_op_60 : decode cX12_op 60 = .ok (.invokevirtual 263, 3) := by decide +kernel
theorem dX12_op_63 : decode cX12_op 63 = .ok (.ifCond .eq 7, 3) := by decide +kernel
theorem dX12_op_66 : decode cX12_op 66 = .ok (.iconst 5, 1) := by decide +kernel
theorem dX12_op_67 : decode cX12_op 67 = .ok (.goto 79, 3) := by decide +kernel
theorem dX12_op_70 : decode cX12_op 70 = .ok (.aload_n 0, 1) := by decide +kernel
theorem dX12_op_71 : decode cX12_op 71 = .ok (.ldc_w 380, 3) := by decide +kernel
theorem dX12_op_74 : decode cX12_op 74 = .ok (.invokevirtual 263, 3) := by decide +kernel
theorem dX12_op_77 : decode cX12_op 77 = .ok (.ifCond .eq 8, 3) := by decide +kernel
theorem dX12_op_80 : decode cX12_op 80 = .ok (.bipush 6, 2) := by decide +kernel
theorem dX12_op_82 : decode cX12_op 82 = .ok (.goto 64, 3) := by decide +kernel
theorem dX12_op_85 : decode cX12_op 85 = .ok (.aload_n 0, 1) := by decide +kernel
theorem dX12_op_86 : decode cX12_op 86 = .ok (.ldc_w 382, 3) := by decide +kernel
theorem dX12_op_89 : decode cX12_op 89 = .ok (.invokevirtual 263, 3) := by decide +kernel
theorem dX12_op_92 : decode cX12_op 92 = .ok (.ifCond .eq 8, 3) := by decide +kernel
theorem dX12_op_95 : decode cX12_op 95 = .ok (.bipush 7, 2) := by decide +kernel
theorem dX12_op_97 : decode cX12_op 97 = .ok (.goto 49, 3) := by decide +kernel
theorem dX12_op_100 : decode cX12_op 100 = .ok (.aload_n 0, 1) := by decide +kernel
theorem dX12_op_101 : decode cX12_op 101 = .ok (.ldc_w 384, 3) := by decide +kernel
theorem dX12_op_104 : decode cX12_op 104 = .ok (.invokevirtual 263, 3) := by decide +kernel
theorem dX12_op_107 : decode cX12_op 107 = .ok (.ifCond .eq 8, 3) := by decide +kernel
theorem dX12_op_110 : decode cX12_op 110 = .ok (.bipush 8, 2) := by decide +kernel
theorem dX12_op_112 : decode cX12_op 112 = .ok (.goto 34, 3) := by decide +kernel
theorem dX12_op_115 : decode cX12_op 115 = .ok (.aload_n 0, 1) := by decide +kernel
theorem dX12_op_116 : decode cX12_op 116 = .ok (.ldc_w 386, 3) := by decide +kernel
theorem dX12_op_119 : decode cX12_op 119 = .ok (.invokevirtual 263, 3) := by decide +kernel
theorem dX12_op_122 : decode cX12_op 122 = .ok (.ifCond .eq 8, 3) := by decide +kernel
theorem dX12_op_125 : decode cX12_op 125 = .ok (.bipush 9, 2) := by decide +kernel
theorem dX12_op_127 : decode cX12_op 127 = .ok (.goto 19, 3) := by decide +kernel
theorem dX12_op_130 : decode cX12_op 130 = .ok (.aload_n 0, 1) := by decide +kernel
theorem dX12_op_131 : decode cX12_op 131 = .ok (.ldc_w 388, 3) := by decide +kernel
theorem dX12_op_134 : decode cX12_op 134 = .ok (.invokevirtual 263, 3) := by decide +kernel
theorem dX12_op_137 : decode cX12_op 137 = .ok (.ifCond .eq 8, 3) := by decide +kernel
theorem dX12_op_140 : decode cX12_op 140 = .ok (.bipush 10, 2) := by decide +kernel
theorem dX12_op_142 : decode cX12_op 142 = .ok (.goto 4, 3) := by decide +kernel
theorem dX12_op_145 : decode cX12_op 145 = .ok (.iconst 0, 1) := by decide +kernel
theorem dX12_op_146 : decode cX12_op 146 = .ok (.ireturn, 1) := by decide +kernel
theorem dX12_use_0 : decode cX12_use 0 = .ok (.aload_n 0, 1) := by decide +kernel
theorem dX12_use_1 : decode cX12_use 1 = .ok (.getfield 94, 3) := by decide +kernel
theorem dX12_use_4 : decode cX12_use 4 = .ok (.aload_n 0, 1) := by decide +kernel
theorem dX12_use_5 : decode cX12_use 5 = .ok (.getfield 390, 3) := by decide +kernel
theorem dX12_use_8 : decode cX12_use 8 = .ok (.iload_n 1, 1) := by decide +kernel
theorem dX12_use_9 : decode cX12_use 9 = .ok (.iastore, 1) := by decide +kernel
theorem dX12_use_10 : decode cX12_use 10 = .ok (.aload_n 0, 1) := by decide +kernel
theorem dX12_use_11 : decode cX12_use 11 = .ok (.getfield 97, 3) := by decide +kernel
theorem dX12_use_14 : decode cX12_use 14 = .ok (.aload_n 0, 1) := by decide +kernel
theorem dX12_use_15 : decode cX12_use 15 = .ok (.getfield 390, 3) := by decide +kernel
theorem dX12_use_18 : decode cX12_use 18 = .ok (.iload_n 2, 1) := by decide +kernel
theorem dX12_use_19 : decode cX12_use 19 = .ok (.iastore, 1) := by decide +kernel
theorem dX12_use_20 : decode cX12_use 20 = .ok (.aload_n 0, 1) := by decide +kernel
theorem dX12_use_21 : decode cX12_use 21 = .ok (.getfield 100, 3) := by decide +kernel
theorem dX12_use_24 : decode cX12_use 24 = .ok (.aload_n 0, 1) := by decide +kernel
theorem dX12_use_25 : decode cX12_use 25 = .ok (.getfield 390, 3) := by decide +kernel
theorem dX12_use_28 : decode cX12_use 28 = .ok (.iload_n 3, 1) := by decide +kernel
theorem dX12_use_29 : decode cX12_use 29 = .ok (.iastore, 1) := by decide +kernel
theorem dX12_use_30 : decode cX12_use 30 = .ok (.aload_n 0, 1) := by decide +kernel
theorem dX12_use_31 : decode cX12_use 31 = .ok (.getfield 103, 3) := by decide +kernel
theorem dX12_use_34 : decode cX12_use 34 = .ok (.aload_n 0, 1) := by decide +kernel
theorem dX12_use_35 : decode cX12_use 35 = .ok (.getfield 390, 3) := by decide +kernel
theorem dX12_use_38 : decode cX12_use 38 = .ok (.iload 4, 2) := by decide +kernel
theorem dX12_use_40 : decode cX12_use 40 = .ok (.iastore, 1) := by decide +kernel
theorem dX12_use_41 : decode cX12_use 41 = .ok (.aload_n 0, 1) := by decide +kernel
theorem dX12_use_42 : decode cX12_use 42 = .ok (.getfield 106, 3) := by decide +kernel
theorem dX12_use_45 : decode cX12_use 45 = .ok (.aload_n 0, 1) := by decide +kernel
theorem dX12_use_46 : decode cX12_use 46 = .ok (.getfield 390, 3) := by decide +kernel
theorem dX12_use_49 : decode cX12_use 49 = .ok (.aload_n 0, 1) := by decide +kernel
theorem dX12_use_50 : decode cX12_use 50 = .ok (.getfield 212, 3) := by decide +kernel
theorem dX12_use_53 : decode cX12_use 53 = .ok (.iastore, 1) := by decide +kernel
theorem dX12_use_54 : decode cX12_use 54 = .ok (.aload_n 0, 1) := by decide +kernel
theorem dX12_use_55 : decode cX12_use 55 = .ok (.dup, 1) := by decide +kernel
theorem dX12_use_56 : decode cX12_use 56 = .ok (.getfield 390, 3) := by decide +kernel
theorem dX12_use_59 : decode cX12_use 59 = .ok (.iconst 1, 1) := by decide +kernel
theorem dX12_use_60 : decode cX12_use 60 = .ok (.iadd, 1) := by decide +kernel
theorem dX12_use_61 : decode cX12_use 61 = .ok (.putfield 390, 3) := by decide +kernel
theorem dX12_use_64 : decode cX12_use 64 = .ok (.return_, 1) := by decide +kernel
theorem dX12_readAction_0 : decode cX12_readAction 0 = .ok (.aload_n 0, 1) := by decide +kernel
theorem dX12_readAction_1 : decode cX12_readAction 1 = .ok (.invokevirtual 393, 3) := by decide +kernel
theorem dX12_readAction_4 : decode cX12_readAction 4 = .ok (.istore 4, 2) := by decide +kernel
theorem dX12_readAction_6 : decode cX12_readAction 6 = .ok (.iload 4, 2) := by decide +kernel
theorem dX12_readAction_8 : decode cX12_readAction 8 = .ok (.ifCond .eq 12, 3) := by decide +kernel
theorem dX12_readAction_11 : decode cX12_readAction 11 = .ok (.aload_n 0, 1) := by decide +kernel
theorem dX12_readAction_12 : decode cX12_readAction 12 = .ok (.getfield 362, 3) := by decide +kernel
theorem dX12_readAction_15 : decode cX12_readAction 15 = .ok (.bipush 60, 2) := by decide +kernel
theorem dX12_readAction_17 : decode cX12_readAction 17 = .ok (.if_icmp .ne 14, 3) := by decide +kernel
theorem dX12_readAction_20 : decode cX12_readAction 20 = .ok (.aload_n 0, 1) := by decide +kernel
theorem dX12_readAction_21 : decode cX12_readAction 21 = .ok (.aload_n 0, 1) := by decide +kernel
theorem dX12_readAction_22 : decode cX12_readAction 22 = .ok (.getfield 212, 3) := by decide +kernel
theorem dX12_readAction_25 : decode cX12_readAction 25 = .ok (.invokevirtual 281, 3) := by decide +kernel
theorem dX12_readAction_28 : decode cX12_readAction 28 = .ok (.pop, 1) := by decide +kernel
theorem dX12_readAction_29 : decode cX12_readAction 29 = .ok (.iconst (-1), 1) := by decide +kernel
theorem dX12_readAction_30 : decode cX12_readAction 30 = .ok (.ireturn, 1) := by decide +kernel
theorem dX12_readAction_31 : decode cX12_readAction 31 = .ok (.aload_n 0, 1) := by decide +kernel
theorem dX12_readAction_32 : decode cX12_readAction 32 = .ok (.dup, 1) := by decide +kernel
theorem dX12_readAction_33 : decode cX12_readAction 33 = .ok (.getfield 362, 3) := by decide +kernel
theorem dX12_readAction_36 : decode cX12_readAction 36 = .ok (.iconst 1, 1) := by decide +kernel
theorem dX12_readAction_37 : decode cX12_readAction 37 = .ok (.iadd, 1) := by decide +kernel
theorem dX12_readAction_38 : decode cX12_readAction 38 = .ok (.putfield 362, 3) := by decide +kernel
theorem dX12_readAction_41 : decode cX12_readAction 41 = .ok (.aload_n 0, 1) := by decide +kernel
theorem dX12_readAction_42 : decode cX12_readAction 42 = .ok (.iload 4, 2) := by decide +kernel
theorem dX12_readAction_44 : decode cX12_readAction 44 = .ok (.iconst 0, 1) := by decide +kernel
theorem dX12_readAction_45 : decode cX12_readAction 45 = .ok (.invokevirtual 171, 3) := by decide +kernel
theorem dX12_readAction_48 : decode cX12_readAction 48 = .ok (.istore 5, 2) := by decide +kernel
theorem dX12_readAction_50 : decode cX12_readAction 50 = .ok (.iload 4, 2) := by decide +kernel
theorem dX12_readAction_52 : decode cX12_readAction 52 = .ok (.iconst 1, 1) := by decide +kernel
theorem dX12_readAction_53 : decode cX12_readAction 53 = .ok (.if_icmp .eq 10, 3) := by decide +kernel
theorem dX12_readAction_56 : decode cX12_readAction 56 = .ok (.iload 4, 2) := by decide +kernel
theorem dX12_readAction_58 : decode cX12_readAction 58 = .ok (.bipush 8, 2) := by decide +kernel
theorem dX12_readAction_60 : decode cX12_readAction 60 = .ok (.if_icmp .ne 12, 3) := by decide +kernel
theorem dX12_readAction_63 : decode cX12_readAction 63 = .ok (.aload_n 0, 1) := by decide +kernel
theorem dX12_readAction_64 : decode cX12_readAction 64 = .ok (.iload_n 1, 1) := by decide +kernel
theorem dX12_readAction_65 : decode cX12_readAction 65 = .ok (.iload_n 2, 1) := by decide +kernel
theorem dX12_readAction_66 : decode cX12_readAction 66 = .ok (.iload 4, 2) := by decide +kernel
theorem dX12_readAction_68 : decode cX12_readAction 68 = .ok (.iload_n 2, 1) := by decide +kernel
theorem dX12_readAction_69 : decode cX12_readAction 69 = .ok (.invokevirtual 396, 3) := by decide +kernel
theorem dX12_readAction_72 : decode cX12_readAction 72 = .ok (.aload_n 0, 1) := by decide +kernel
theorem dX12_readAction_73 : decode cX12_readAction 73 = .ok (.invokevirtual 284, 3) := by decide +kernel
theorem dX12_readAction_76 : decode cX12_readAction 76 = .ok (.iconst 1, 1) := by decide +kernel
theorem dX12_readAction_77 : decode cX12_readAction 77 = .ok (.istore 6, 2) := by decide +kernel
theorem dX12_readAction_79 : decode cX12_readAction 79 = .ok (.iload 4, 2) := by decide +kernel
theorem dX12_readAction_81 : decode cX12_readAction 81 = .ok (.iconst 2, 1) := by decide +kernel
theorem dX12_readAction_82 : decode cX12_readAction 82 = .ok (.if_icmp .ne 57, 3) := by decide +kernel
theorem dX12_readAction_85 : decode cX12_readAction 85 = .ok (.aload_n 0, 1) := by decide +kernel
theorem dX12_readAction_86 : decode cX12_readAction 86 = .ok (.getfield 51, 3) := by decide +kernel
theorem dX12_readAction_89 : decode cX12_readAction 89 = .ok (.iload 5, 2) := by decide +kernel
theorem dX12_readAction_91 : decode cX12_readAction 91 = .ok (.aload_n 0, 1) := by decide +kernel
theorem dX12_readAction_92 : decode cX12_readAction 92 = .ok (.invokevirtual 356, 3) := by decide +kernel
theorem dX12_readAction_95 : decode cX12_readAction 95 = .ok (.iastore, 1) := by decide +kernel
theorem dX12_readAction_96 : decode cX12_readAction 96 = .ok (.aload_n 0, 1) := by decide +kernel
theorem dX12_readAction_97 : decode cX12_readAction 97 = .ok (.getfield 51, 3) := by decide +kernel
theorem dX12_readAction_100 : decode cX12_readAction 100 = .ok (.iload 5, 2) := by decide +kernel
theorem dX12_readAction_102 : decode cX12_readAction 102 = .ok (.iaload, 1) := by decide +kernel
theorem dX12_readAction_103 : decode cX12_readAction 103 = .ok (.ifCond .ge 14, 3) := by decide +kernel
theorem dX12_readAction_106 : decode cX12_readAction 106 = .ok (.aload_n 0, 1) := by decide +kernel
theorem dX12_readAction_107 : decode cX12_readAction 107 = .ok (.aload_n 0, 1) := by decide +kernel
theorem dX12_readAction_108 : decode cX12_readAction 108 = .ok (.getfield 212, 3) := by decide +kernel
theorem dX12_readAction_111 : decode cX12_readAction 111 = .ok (.invokevirtual 281, 3) := by decide +kernel
theorem dX12_readAction_114 : decode cX12_readAction 114 = .ok (.pop, 1) := by decide +kernel
theorem dX12_readAction_115 : decode cX12_readAction 115 = .ok (.iconst (-1), 1) := by decide +kernel
theorem dX12_readAction_116 : decode cX12_readAction 116 = .ok (.ireturn, 1) := by decide +kernel
theorem dX12_readAction_117 : decode cX12_readAction 117 = .ok (.aload_n 0, 1) := by decide +kernel
theorem dX12_readAction_118 : decode cX12_readAction 118 = .ok (.iload_n 1, 1) := by decide +kernel
theorem dX12_readAction_119 : decode cX12_readAction 119 = .ok (.iload_n 2, 1) := by decide +kernel
theorem dX12_readAction_120 : decode cX12_readAction 120 = .ok (.iload 4, 2) := by decide +kernel
theorem dX12_readAction_122 : decode cX12_readAction 122 = .ok (.aload_n 0, 1) := by decide +kernel
theorem dX12_readAction_123 : decode cX12_readAction 123 = .ok (.getfield 51, 3) := by decide +kernel
theorem dX12_readAction_126 : decode cX12_readAction 126 = .ok (.iload 5, 2) := by decide +kernel
theorem dX12_readAction_128 : decode cX12_readAction 128 = .ok (.iaload, 1) := by decide +kernel
theorem dX12_readAction_129 : decode cX12_readAction 129 = .ok (.invokevirtual 396, 3) := by decide +kernel
theorem dX12_readAction_132 : decode cX12_readAction 132 = .ok (.aload_n 0, 1) := by decide +kernel
theorem dX12_readAction_133 : decode cX12_readAction 133 = .ok (.invokevirtual 284, 3) := by decide +kernel
theorem dX12_readAction_136 : decode cX12_readAction 136 = .ok (.goto 24, 3) := by decide +kernel
theorem dX12_readAction_139 : decode cX12_readAction 139 = .ok (.iload 4, 2) := by decide +kernel
theorem dX12_readAction_141 : decode cX12_readAction 141 = .ok (.iconst 1, 1) := by decide +kernel
theorem dX12_readAction_142 : decode cX12_readAction 142 = .ok (.if_icmp .eq 18, 3) := by decide +kernel
theorem dX12_readAction_145 : decode cX12_readAction 145 = .ok (.iload 4, 2) := by decide +kernel
theorem dX12_readAction_147 : decode cX12_readAction 147 = .ok (.bipush 10, 2) := by decide +kernel
theorem dX12_readAction_149 : decode cX12_readAction 149 = .ok (.if_icmp .eq 11, 3) := by decide +kernel
theorem dX12_readAction_152 : decode cX12_readAction 152 = .ok (.aload_n 0, 1) := by decide +kernel
theorem dX12_readAction_153 : decode cX12_readAction 153 = .ok (.iload 5, 2) := by decide +kernel
theorem dX12_readAction_155 : decode cX12_readAction 155 = .ok (.invokevirtual 400, 3) := by decide +kernel
theorem dX12_readAction_158 : decode cX12_readAction 158 = .ok (.istore 6, 2) := by decide +kernel
theorem dX12_readAction_160 : decode cX12_readAction 160 = .ok (.iload 6, 2) := by decide +kernel
theorem dX12_readAction_162 : decode cX12_readAction 162 = .ok (.ifCond .ne 5, 3) := by decide +kernel
theorem dX12_readAction_165 : decode cX12_readAction 165 = .ok (.iconst (-1), 1) := by decide +kernel
theorem dX12_readAction_166 : decode cX12_readAction 166 = .ok (.ireturn, 1) := by decide +kernel
theorem dX12_readAction_167 : decode cX12_readAction 167 = .ok (.iload 4, 2) := by decide +kernel
theorem dX12_readAction_169 : decode cX12_readAction 169 = .ok (.bipush 9, 2) := by decide +kernel
theorem dX12_readAction_171 : decode cX12_readAction 171 = .ok (.if_icmp .eq 10, 3) := by decide +kernel
theorem dX12_readAction_174 : decode cX12_readAction 174 = .ok (.iload 4, 2) := by decide +kernel
theorem dX12_readAction_176 : decode cX12_readAction 176 = .ok (.bipush 10, 2) := by decide +kernel
theorem dX12_readAction_178 : decode cX12_readAction 178 = .ok (.if_icmp .ne 22, 3) := by decide +kernel
theorem dX12_readAction_181 : decode cX12_readAction 181 = .ok (.aload_n 0, 1) := by decide +kernel
theorem dX12_readAction_182 : decode cX12_readAction 182 = .ok (.iload 5, 2) := by decide +kernel
theorem dX12_readAction_184 : decode cX12_readAction 184 = .ok (.iload_n 1, 1) := by decide +kernel
theorem dX12_readAction_185 : decode cX12_readAction 185 = .ok (.iload_n 2, 1) := by decide +kernel
theorem dX12_readAction_186 : decode cX12_readAction 186 = .ok (.iload_n 3, 1) := by decide +kernel
theorem dX12_readAction_187 : decode cX12_readAction 187 = .ok (.invokevirtual 403, 3) := by decide +kernel
theorem dX12_readAction_190 : decode cX12_readAction 190 = .ok (.ifCond .eq 8, 3) := by decide +kernel
theorem dX12_readAction_193 : decode cX12_readAction 193 = .ok (.iload 5, 2) := by decide +kernel
theorem dX12_readAction_195 : decode cX12_readAction 195 = .ok (.goto 4, 3) := by decide +kernel
theorem dX12_readAction_198 : decode cX12_readAction 198 = .ok (.iconst (-1), 1) := by decide +kernel
theorem dX12_readAction_199 : decode cX12_readAction 199 = .ok (.ireturn, 1) := by decide +kernel
theorem dX12_readAction_200 : decode cX12_readAction 200 = .ok (.aload_n 0, 1) := by decide +kernel
theorem dX12_readAction_201 : decode cX12_readAction 201 = .ok (.ldc_w 407, 3) := by decide +kernel
theorem dX12_readAction_204 : decode cX12_readAction 204 = .ok (.invokevirtual 302, 3) := by decide +kernel
theorem dX12_readAction_207 : decode cX12_readAction 207 = .ok (.ifCond .eq 8, 3) := by decide +kernel
theorem dX12_readAction_210 : decode cX12_readAction 210 = .ok (.iload 5, 2) := by decide +kernel
theorem dX12_readAction_212 : decode cX12_readAction 212 = .ok (.goto 4, 3) := by decide +kernel
theorem dX12_readAction_215 : decode cX12_readAction 215 = .ok (.iconst (-1), 1) := by decide +kernel
theorem dX12_readAction_216 : decode cX12_readAction 216 = .ok (.ireturn, 1) := by decide +kernel
theorem dX12_readNumber_0 : decode cX12_readNumber 0 = .ok (.aload_n 0, 1) := by decide +kernel
theorem dX12_readNumber_1 : decode cX12_readNumber 1 = .ok (.ldc_w 409, 3) := by decide +kernel
theorem dX12_readNumber_4 : decode cX12_readNumber 4 = .ok (.invokevirtual 263, 3) := by decide +kernel
theorem dX12_readNumber_7 : decode cX12_readNumber 7 = .ok (.ifCond .eq 13, 3) := by decide +kernel
theorem dX12_readNumber_10 : decode cX12_readNumber 10 = .ok (.aload_n 0, 1) := by decide +kernel
theorem dX12_readNumber_11 : decode cX12_readNumber 11 = .ok (.getfield 51, 3) := by decide +kernel
theorem dX12_readNumber_14 : decode cX12_readNumber 14 = .ok (.iload_n 1, 1) := by decide +kernel
theorem dX12_readNumber_15 : decode cX12_readNumber 15 = .ok (.iconst (-1), 1) := by decide +kernel
theorem dX12_readNumber_16 : decode cX12_readNumber 16 = .ok (.iastore, 1) := by decide +kernel
theorem dX12_readNumber_17 : decode cX12_readNumber 17 = .ok (.goto 66, 3) := by decide +kernel
theorem dX12_readNumber_20 : decode cX12_readNumber 20 = .ok (.aload_n 0, 1) := by decide +kernel
theorem dX12_readNumber_21 : decode cX12_readNumber 21 = .ok (.getfield 215, 3) := by decide +kernel
theorem dX12_readNumber_24 : decode cX12_readNumber 24 = .ok (.iconst 3, 1) := by decide +kernel
theorem dX12_readNumber_25 : decode cX12_readNumber 25 = .ok (.if_icmp .ne 49, 3) := by decide +kernel
theorem dX12_readNumber_28 : decode cX12_readNumber 28 = .ok (.iconst 0, 1) := by decide +kernel
theorem dX12_readNumber_29 : decode cX12_readNumber 29 = .ok (.istore_n 2, 1) := by decide +kernel
theorem dX12_readNumber_30 : decode cX12_readNumber 30 = .ok (.aload_n 0, 1) := by decide +kernel
theorem dX12_readNumber_31 : decode cX12_readNumber 31 = .ok (.getfield 212, 3) := by decide +kernel
theorem dX12_readNumber_34 : decode cX12_readNumber 34 = .ok (.istore_n 3, 1) := by decide +kernel
theorem dX12_readNumber_35 : decode cX12_readNumber 35 = .ok (.iload_n 3, 1) := by decide +kernel
theorem dX12_readNumber_36 : decode cX12_readNumber 36 = .ok (.aload_n 0, 1) := by decide +kernel
theorem dX12_readNumber_37 : decode cX12_readNumber 37 = .ok (.getfield 225, 3) := by decide +kernel
theorem dX12_readNumber_40 : decode cX12_readNumber 40 = .ok (.if_icmp .ge 24, 3) := by decide +kernel
theorem dX12_readNumber_43 : decode cX12_readNumber 43 = .ok (.bipush 10, 2) := by decide +kernel
theorem dX12_readNumber_45 : decode cX12_readNumber 45 = .ok (.iload_n 2, 1) := by decide +kernel
theorem dX12_readNumber_46 : decode cX12_readNumber 46 = .ok (.imul, 1) := by decide +kernel
theorem dX12_readNumber_47 : decode cX12_readNumber 47 = .ok (.aload_n 0, 1) := by decide +kernel
theorem dX12_readNumber_48 : decode cX12_readNumber 48 = .ok (.getfield 9, 3) := by decide +kernel
theorem dX12_readNumber_51 : decode cX12_readNumber 51 = .ok (.iload_n 3, 1) := by decide +kernel
theorem dX12_readNumber_52 : decode cX12_readNumber 52 = .ok (.baload, 1) := by decide +kernel
theorem dX12_readNumber_53 : decode cX12_readNumber 53 = .ok (.iadd, 1) := by decide +kernel
theorem dX12_readNumber_54 : decode cX12_readNumber 54 = .ok (.bipush 48, 2) := by decide +kernel
theorem dX12_readNumber_56 : decode cX12_readNumber 56 = .ok (.isub, 1) := by decide +kernel
theorem dX12_readNumber_57 : decode cX12_readNumber 57 = .ok (.istore_n 2, 1) := by decide +kernel
theorem dX12_readNumber_58 : decode cX12_readNumber 58 = .ok (.iinc 3 1, 3) := by decide +kernel
theorem dX12_readNumber_61 : decode cX12_readNumber 61 = .ok (.goto (-26), 3) := by decide +kernel
theorem dX12_readNumber_64 : decode cX12_readNumber 64 = .ok (.aload_n 0, 1) := by decide +kernel
theorem dX12_readNumber_65 : decode cX12_readNumber 65 = .ok (.getfield 51, 3) := by decide +kernel
theorem dX12_readNumber_68 : decode cX12_readNumber 68 = .ok (.iload_n 1, 1) := by decide +kernel
theorem dX12_readNumber_69 : decode cX12_readNumber 69 = .ok (.iload_n 2, 1) := by decide +kernel
theorem dX12_readNumber_70 : decode cX12_readNumber 70 = .ok (.iastore, 1) := by decide +kernel
theorem dX12_readNumber_71 : decode cX12_readNumber 71 = .ok (.goto 12, 3) := by decide +kernel
theorem dX12_readNumber_74 : decode cX12_readNumber 74 = .ok (.aload_n 0, 1) := by decide +kernel
theorem dX12_readNumber_75 : decode cX12_readNumber 75 = .ok (.aload_n 0, 1) := by decide +kernel
theorem dX12_readNumber_76 : decode cX12_readNumber 76 = .ok (.getfield 212, 3) := by decide +kernel
theorem dX12_readNumber_79 : decode cX12_readNumber 79 = .ok (.invokevirtual 281, 3) := by decide +kernel
theorem dX12_readNumber_82 : decode cX12_readNumber 82 = .ok (.ireturn, 1) := by decide +kernel
theorem dX12_readNumber_83 : decode cX12_readNumber 83 = .ok (.aload_n 0, 1) := by decide +kernel
theorem dX12_readNumber_84 : decode cX12_readNumber 84 = .ok (.invokevirtual 284, 3) := by decide +kernel
theorem dX12_readNumber_87 : decode cX12_readNumber 87 = .ok (.iconst 1, 1) := by decide +kernel
theorem dX12_readNumber_88 : decode cX12_readNumber 88 = .ok (.ireturn, 1) := by decide +kernel
theorem dX12_readParts_0 : decode cX12_readParts 0 = .ok (.aload_n 0, 1) := by decide +kernel
theorem dX12_readParts_1 : decode cX12_readParts 1 = .ok (.getfield 54, 3) := by decide +kernel
theorem dX12_readParts_4 : decode cX12_readParts 4 = .ok (.iload_n 1, 1) := by decide +kernel
theorem dX12_readParts_5 : decode cX12_readParts 5 = .ok (.aload_n 0, 1) := by decide +kernel
theorem dX12_readParts_6 : decode cX12_readParts 6 = .ok (.iload_n 2, 1) := by decide +kernel
theorem dX12_readParts_7 : decode cX12_readParts 7 = .ok (.iload_n 3, 1) := by decide +kernel
theorem dX12_readParts_8 : decode cX12_readParts 8 = .ok (.iload 4, 2) := by decide +kernel
theorem dX12_readParts_10 : decode cX12_readParts 10 = .ok (.iconst 1, 1) := by decide +kernel
theorem dX12_readParts_11 : decode cX12_readParts 11 = .ok (.iadd, 1) := by decide +kernel
theorem dX12_readParts_12 : decode cX12_readParts 12 = .ok (.invokevirtual 365, 3) := by decide +kernel
theorem dX12_readParts_15 : decode cX12_readParts 15 = .ok (.iastore, 1) := by decide +kernel
theorem dX12_readParts_16 : decode cX12_readParts 16 = .ok (.aload_n 0, 1) := by decide +kernel
theorem dX12_readParts_17 : decode cX12_readParts 17 = .ok (.getfield 54, 3) := by decide +kernel
theorem dX12_readParts_20 : decode cX12_readParts 20 = .ok (.iload_n 1, 1) := by decide +kernel
theorem dX12_readParts_21 : decode cX12_readParts 21 = .ok (.iaload, 1) := by decide +kernel
theorem dX12_readParts_22 : decode cX12_readParts 22 = .ok (.bipush (-2), 2) := by decide +kernel
theorem dX12_readParts_24 : decode cX12_readParts 24 = .ok (.if_icmp .ne 5, 3) := by decide +kernel
theorem dX12_readParts_27 : decode cX12_readParts 27 = .ok (.iconst 0, 1) := by decide +kernel
theorem dX12_readParts_28 : decode cX12_readParts 28 = .ok (.ireturn, 1) := by decide +kernel
theorem dX12_readParts_29 : decode cX12_readParts 29 = .ok (.aload_n 0, 1) := by decide +kernel
theorem dX12_readParts_30 : decode cX12_readParts 30 = .ok (.getfield 48, 3) := by decide +kernel
theorem dX12_readParts_33 : decode cX12_readParts 33 = .ok (.iload_n 1, 1) := by decide +kernel
theorem dX12_readParts_34 : decode cX12_readParts 34 = .ok (.iaload, 1) := by decide +kernel
theorem dX12_readParts_35 : decode cX12_readParts 35 = .ok (.bipush 10, 2) := by decide +kernel
theorem dX12_readParts_37 : decode cX12_readParts 37 = .ok (.if_icmp .eq 13, 3) := by decide +kernel
theorem dX12_readParts_40 : decode cX12_readParts 40 = .ok (.aload_n 0, 1) := by decide +kernel
theorem dX12_readParts_41 : decode cX12_readParts 41 = .ok (.ldc_w 411, 3) := by decide +kernel
theorem dX12_readParts_44 : decode cX12_readParts 44 = .ok (.invokevirtual 263, 3) := by decide +kernel
theorem dX12_readParts_47 : decode cX12_readParts 47 = .ok (.ifCond .eq 7, 3) := by decide +kernel
theorem dX12_readParts_50 : decode cX12_readParts 50 = .ok (.iconst 1, 1) := by decide +kernel
theorem dX12_readParts_51 : decode cX12_readParts 51 = .ok (.goto 4, 3) := by decide +kernel
theorem dX12_readParts_54 : decode cX12_readParts 54 = .ok (.iconst 0, 1) := by decide +kernel
theorem dX12_readParts_55 : decode cX12_readParts 55 = .ok (.istore 5, 2) := by decide +kernel
theorem dX12_readParts_57 : decode cX12_readParts 57 = .ok (.iload 5, 2) := by decide +kernel
theorem dX12_readParts_59 : decode cX12_readParts 59 = .ok (.ifCond .eq 32, 3) := by decide +kernel
theorem dX12_readParts_62 : decode cX12_readParts 62 = .ok (.aload_n 0, 1) := by decide +kernel
theorem dX12_readParts_63 : decode cX12_readParts 63 = .ok (.aload_n 0, 1) := by decide +kernel
theorem dX12_readParts_64 : decode cX12_readParts 64 = .ok (.getfield 48, 3) := by decide +kernel
theorem dX12_readParts_67 : decode cX12_readParts 67 = .ok (.iload_n 1, 1) := by decide +kernel
theorem dX12_readParts_68 : decode cX12_readParts 68 = .ok (.iaload, 1) := by decide +kernel
theorem dX12_readParts_69 : decode cX12_readParts 69 = .ok (.bipush 10, 2) := by decide +kernel
theorem dX12_readParts_71 : decode cX12_readParts 71 = .ok (.if_icmp .ne 9, 3) := by decide +kernel
theorem dX12_readParts_74 : decode cX12_readParts 74 = .ok (.ldc_w 413, 3) := by decide +kernel
theorem dX12_readParts_77 : decode cX12_readParts 77 = .ok (.goto 6, 3) := by decide +kernel
theorem dX12_readParts_80 : decode cX12_readParts 80 = .ok (.ldc_w 411, 3) := by decide +kernel
theorem dX12_readParts_83 : decode cX12_readParts 83 = .ok (.invokevirtual 302, 3) := by decide +kernel
theorem dX12_readParts_86 : decode cX12_readParts 86 = .ok (.ifCond .ne 5, 3) := by decide +kernel
theorem dX12_readParts_89 : decode cX12_readParts 89 = .ok (.iconst 0, 1) := by decide +kernel
theorem dX12_readParts_90 : decode cX12_readParts 90 = .ok (.ireturn, 1) := by decide +kernel
theorem dX12_readParts_91 : decode cX12_readParts 91 = .ok (.aload_n 0, 1) := by decide +kernel
theorem dX12_readParts_92 : decode cX12_readParts 92 = .ok (.getfield 57, 3) := by decide +kernel
theorem dX12_readParts_95 : decode cX12_readParts 95 = .ok (.iload_n 1, 1) := by decide +kernel
theorem dX12_readParts_96 : decode cX12_readParts 96 = .ok (.iload 5, 2) := by decide +kernel
theorem dX12_readParts_98 : decode cX12_readParts 98 = .ok (.ifCond .eq 16, 3) := by decide +kernel
theorem dX12_readParts_101 : decode cX12_readParts 101 = .ok (.aload_n 0, 1) := by decide +kernel
theorem dX12_readParts_102 : decode cX12_readParts 102 = .ok (.iload_n 2, 1) := by decide +kernel
theorem dX12_readParts_103 : decode cX12_readParts 103 = .ok (.iload_n 3, 1) := by decide +kernel
theorem dX12_readParts_104 : decode cX12_readParts 104 = .ok (.iload 4, 2) := by decide +kernel
theorem dX12_readParts_106 : decode cX12_readParts 106 = .ok (.iconst 1, 1) := by decide +kernel
theorem dX12_readParts_107 : decode cX12_readParts 107 = .ok (.iadd, 1) := by decide +kernel
theorem dX12_readParts_108 : decode cX12_readParts 108 = .ok (.invokevirtual 365, 3) := by decide +kernel
theorem dX12_readParts_111 : decode cX12_readParts 111 = .ok (.goto 4, 3) := by decide +kernel
theorem dX12_readParts_114 : decode cX12_readParts 114 = .ok (.iconst (-1), 1) := by decide +kernel
theorem dX12_readParts_115 : decode cX12_readParts 115 = .ok (.iastore, 1) := by decide +kernel
theorem dX12_readParts_116 : decode cX12_readParts 116 = .ok (.aload_n 0, 1) := by decide +kernel
theorem dX12_readParts_117 : decode cX12_readParts 117 = .ok (.getfield 57, 3) := by decide +kernel
theorem dX12_readParts_120 : decode cX12_readParts 120 = .ok (.iload_n 1, 1) := by decide +kernel
theorem dX12_readParts_121 : decode cX12_readParts 121 = .ok (.iaload, 1) := by decide +kernel
theorem dX12_readParts_122 : decode cX12_readParts 122 = .ok (.bipush (-2), 2) := by decide +kernel
theorem dX12_readParts_124 : decode cX12_readParts 124 = .ok (.if_icmp .eq 7, 3) := by decide +kernel
theorem dX12_readParts_127 : decode cX12_readParts 127 = .ok (.iconst 1, 1) := by decide +kernel
theorem dX12_readParts_128 : decode cX12_readParts 128 = .ok (.goto 4, 3) := by decide +kernel
theorem dX12_readParts_131 : decode cX12_readParts 131 = .ok (.iconst 0, 1) := by decide +kernel
theorem dX12_readParts_132 : decode cX12_readParts 132 = .ok (.ireturn, 1) := by decide +kernel
theorem dX12_judge_0 : decode cX12_judge 0 = .ok (.iconst 0, 1) := by decide +kernel
theorem dX12_judge_1 : decode cX12_judge 1 = .ok (.istore_n 1, 1) := by decide +kernel
theorem dX12_judge_2 : decode cX12_judge 2 = .ok (.iload_n 1, 1) := by decide +kernel
theorem dX12_judge_3 : decode cX12_judge 3 = .ok (.aload_n 0, 1) := by decide +kernel
theorem dX12_judge_4 : decode cX12_judge 4 = .ok (.getfield 359, 3) := by decide +kernel
theorem dX12_judge_7 : decode cX12_judge 7 = .ok (.if_icmp .ge 31, 3) := by decide +kernel
theorem dX12_judge_10 : decode cX12_judge 10 = .ok (.aload_n 0, 1) := by decide +kernel
theorem dX12_judge_11 : decode cX12_judge 11 = .ok (.aload_n 0, 1) := by decide +kernel
theorem dX12_judge_12 : decode cX12_judge 12 = .ok (.getfield 85, 3) := by decide +kernel
theorem dX12_judge_15 : decode cX12_judge 15 = .ok (.iload_n 1, 1) := by decide +kernel
theorem dX12_judge_16 : decode cX12_judge 16 = .ok (.iaload, 1) := by decide +kernel
theorem dX12_judge_17 : decode cX12_judge 17 = .ok (.aload_n 0, 1) := by decide +kernel
theorem dX12_judge_18 : decode cX12_judge 18 = .ok (.getfield 88, 3) := by decide +kernel
theorem dX12_judge_21 : decode cX12_judge 21 = .ok (.iload_n 1, 1) := by decide +kernel
theorem dX12_judge_22 : decode cX12_judge 22 = .ok (.iaload, 1) := by decide +kernel
theorem dX12_judge_23 : decode cX12_judge 23 = .ok (.aload_n 0, 1) := by decide +kernel
theorem dX12_judge_24 : decode cX12_judge 24 = .ok (.getfield 91, 3) := by decide +kernel
theorem dX12_judge_27 : decode cX12_judge 27 = .ok (.iload_n 1, 1) := by decide +kernel
theorem dX12_judge_28 : decode cX12_judge 28 = .ok (.iaload, 1) := by decide +kernel
theorem dX12_judge_29 : decode cX12_judge 29 = .ok (.invokevirtual 415, 3) := by decide +kernel
theorem dX12_judge_32 : decode cX12_judge 32 = .ok (.iinc 1 1, 3) := by decide +kernel
theorem dX12_judge_35 : decode cX12_judge 35 = .ok (.goto (-33), 3) := by decide +kernel
theorem dX12_judge_38 : decode cX12_judge 38 = .ok (.iconst 0, 1) := by decide +kernel
theorem dX12_judge_39 : decode cX12_judge 39 = .ok (.istore_n 1, 1) := by decide +kernel
theorem dX12_judge_40 : decode cX12_judge 40 = .ok (.iload_n 1, 1) := by decide +kernel
theorem dX12_judge_41 : decode cX12_judge 41 = .ok (.aload_n 0, 1) := by decide +kernel
theorem dX12_judge_42 : decode cX12_judge 42 = .ok (.getfield 390, 3) := by decide +kernel
theorem dX12_judge_45 : decode cX12_judge 45 = .ok (.if_icmp .ge 97, 3) := by decide +kernel
theorem dX12_judge_48 : decode cX12_judge 48 = .ok (.aload_n 0, 1) := by decide +kernel
theorem dX12_judge_49 : decode cX12_judge 49 = .ok (.getfield 94, 3) := by decide +kernel
theorem dX12_judge_52 : decode cX12_judge 52 = .ok (.iload_n 1, 1) := by decide +kernel
theorem dX12_judge_53 : decode cX12_judge 53 = .ok (.iaload, 1) := by decide +kernel
theorem dX12_judge_54 : decode cX12_judge 54 = .ok (.istore_n 2, 1) := by decide +kernel
theorem dX12_judge_55 : decode cX12_judge 55 = .ok (.aload_n 0, 1) := by decide +kernel
theorem dX12_judge_56 : decode cX12_judge 56 = .ok (.getfield 100, 3) := by decide +kernel
theorem dX12_judge_59 : decode cX12_judge 59 = .ok (.iload_n 1, 1) := by decide +kernel
theorem dX12_judge_60 : decode cX12_judge 60 = .ok (.iaload, 1) := by decide +kernel
theorem dX12_judge_61 : decode cX12_judge 61 = .ok (.bipush 8, 2) := by decide +kernel
theorem dX12_judge_63 : decode cX12_judge 63 = .ok (.if_icmp .ne 27, 3) := by decide +kernel
theorem dX12_judge_66 : decode cX12_judge 66 = .ok (.aload_n 0, 1) := by decide +kernel
theorem dX12_judge_67 : decode cX12_judge 67 = .ok (.getfield 97, 3) := by decide +kernel
theorem dX12_judge_70 : decode cX12_judge 70 = .ok (.iload_n 1, 1) := by decide +kernel
theorem dX12_judge_71 : decode cX12_judge 71 = .ok (.iaload, 1) := by decide +kernel
theorem dX12_judge_72 : decode cX12_judge 72 = .ok (.ifCond .eq 64, 3) := by decide +kernel
theorem dX12_judge_75 : decode cX12_judge 75 = .ok (.aload_n 0, 1) := by decide +kernel
theorem dX12_judge_76 : decode cX12_judge 76 = .ok (.bipush 7, 2) := by decide +kernel
theorem dX12_judge_78 : decode cX12_judge 78 = .ok (.aload_n 0, 1) := by decide +kernel
theorem dX12_judge_79 : decode cX12_judge 79 = .ok (.getfield 106, 3) := by decide +kernel
theorem dX12_judge_82 : decode cX12_judge 82 = .ok (.iload_n 1, 1) := by decide +kernel
theorem dX12_judge_83 : decode cX12_judge 83 = .ok (.iaload, 1) := by decide +kernel
theorem dX12_judge_84 : decode cX12_judge 84 = .ok (.invokevirtual 333, 3) := by decide +kernel
theorem dX12_judge_87 : decode cX12_judge 87 = .ok (.goto 49, 3) := by decide +kernel
theorem dX12_judge_90 : decode cX12_judge 90 = .ok (.aload_n 0, 1) := by decide +kernel
theorem dX12_judge_91 : decode cX12_judge 91 = .ok (.iload_n 2, 1) := by decide +kernel
theorem dX12_judge_92 : decode cX12_judge 92 = .ok (.aload_n 0, 1) := by decide +kernel
theorem dX12_judge_93 : decode cX12_judge 93 = .ok (.getfield 103, 3) := by decide +kernel
theorem dX12_judge_96 : decode cX12_judge 96 = .ok (.iload_n 1, 1) := by decide +kernel
theorem dX12_judge_97 : decode cX12_judge 97 = .ok (.iaload, 1) := by decide +kernel
theorem dX12_judge_98 : decode cX12_judge 98 = .ok (.aload_n 0, 1) := by decide +kernel
theorem dX12_judge_99 : decode cX12_judge 99 = .ok (.getfield 100, 3) := by decide +kernel
theorem dX12_judge_102 : decode cX12_judge 102 = .ok (.iload_n 1, 1) := by decide +kernel
theorem dX12_judge_103 : decode cX12_judge 103 = .ok (.iaload, 1) := by decide +kernel
theorem dX12_judge_104 : decode cX12_judge 104 = .ok (.iconst 1, 1) := by decide +kernel
theorem dX12_judge_105 : decode cX12_judge 105 = .ok (.if_icmp .ne 12, 3) := by decide +kernel
theorem dX12_judge_108 : decode cX12_judge 108 = .ok (.aload_n 0, 1) := by decide +kernel
theorem dX12_judge_109 : decode cX12_judge 109 = .ok (.getfield 26, 3) := by decide +kernel
theorem dX12_judge_112 : decode cX12_judge 112 = .ok (.iload_n 2, 1) := by decide +kernel
theorem dX12_judge_113 : decode cX12_judge 113 = .ok (.iaload, 1) := by decide +kernel
theorem dX12_judge_114 : decode cX12_judge 114 = .ok (.goto 4, 3) := by decide +kernel
theorem dX12_judge_117 : decode cX12_judge 117 = .ok (.iload_n 2, 1) := by decide +kernel
theorem dX12_judge_118 : decode cX12_judge 118 = .ok (.invokevirtual 419, 3) := by decide +kernel
theorem dX12_judge_121 : decode cX12_judge 121 = .ok (.ifCond .ge 15, 3) := by decide +kernel
theorem dX12_judge_124 : decode cX12_judge 124 = .ok (.aload_n 0, 1) := by decide +kernel
theorem dX12_judge_125 : decode cX12_judge 125 = .ok (.bipush 6, 2) := by decide +kernel
theorem dX12_judge_127 : decode cX12_judge 127 = .ok (.aload_n 0, 1) := by decide +kernel
theorem dX12_judge_128 : decode cX12_judge 128 = .ok (.getfield 106, 3) := by decide +kernel
theorem dX12_judge_131 : decode cX12_judge 131 = .ok (.iload_n 1, 1) := by decide +kernel
theorem dX12_judge_132 : decode cX12_judge 132 = .ok (.iaload, 1) := by decide +kernel
theorem dX12_judge_133 : decode cX12_judge 133 = .ok (.invokevirtual 333, 3) := by decide +kernel
theorem dX12_judge_136 : decode cX12_judge 136 = .ok (.iinc 1 1, 3) := by decide +kernel
theorem dX12_judge_139 : decode cX12_judge 139 = .ok (.goto (-99), 3) := by decide +kernel
theorem dX12_judge_142 : decode cX12_judge 142 = .ok (.return_, 1) := by decide +kernel
theorem dX12_judgeBody_0 : decode cX12_judgeBody 0 = .ok (.aload_n 0, 1) := by decide +kernel
theorem dX12_judgeBody_1 : decode cX12_judgeBody 1 = .ok (.getfield 26, 3) := by decide +kernel
theorem dX12_judgeBody_4 : decode cX12_judgeBody 4 = .ok (.iload_n 1, 1) := by decide +kernel
theorem dX12_judgeBody_5 : decode cX12_judgeBody 5 = .ok (.iaload, 1) := by decide +kernel
theorem dX12_judgeBody_6 : decode cX12_judgeBody 6 = .ok (.istore 4, 2) := by decide +kernel
theorem dX12_judgeBody_8 : decode cX12_judgeBody 8 = .ok (.iload 4, 2) := by decide +kernel
theorem dX12_judgeBody_10 : decode cX12_judgeBody 10 = .ok (.ifCond .lt 79, 3) := by decide +kernel
theorem dX12_judgeBody_13 : decode cX12_judgeBody 13 = .ok (.aload_n 0, 1) := by decide +kernel
theorem dX12_judgeBody_14 : decode cX12_judgeBody 14 = .ok (.iload_n 1, 1) := by decide +kernel
theorem dX12_judgeBody_15 : decode cX12_judgeBody 15 = .ok (.iload_n 2, 1) := by decide +kernel
theorem dX12_judgeBody_16 : decode cX12_judgeBody 16 = .ok (.iload 4, 2) := by decide +kernel
theorem dX12_judgeBody_18 : decode cX12_judgeBody 18 = .ok (.invokevirtual 203, 3) := by decide +kernel
theorem dX12_judgeBody_21 : decode cX12_judgeBody 21 = .ok (.ifCond .eq 56, 3) := by decide +kernel
theorem dX12_judgeBody_24 : decode cX12_judgeBody 24 = .ok (.aload_n 0, 1) := by decide +kernel
theorem dX12_judgeBody_25 : decode cX12_judgeBody 25 = .ok (.getfield 39, 3) := by decide +kernel
theorem dX12_judgeBody_28 : decode cX12_judgeBody 28 = .ok (.bipush 6, 2) := by decide +kernel
theorem dX12_judgeBody_30 : decode cX12_judgeBody 30 = .ok (.iload 4, 2) := by decide +kernel
theorem dX12_judgeBody_32 : decode cX12_judgeBody 32 = .ok (.imul, 1) := by decide +kernel
theorem dX12_judgeBody_33 : decode cX12_judgeBody 33 = .ok (.iload_n 2, 1) := by decide +kernel
theorem dX12_judgeBody_34 : decode cX12_judgeBody 34 = .ok (.iadd, 1) := by decide +kernel
theorem dX12_judgeBody_35 : decode cX12_judgeBody 35 = .ok (.baload, 1) := by decide +kernel
theorem dX12_judgeBody_36 : decode cX12_judgeBody 36 = .ok (.ifCond .eq 9, 3) := by decide +kernel
theorem dX12_judgeBody_39 : decode cX12_judgeBody 39 = .ok (.aload_n 0, 1) := by decide +kernel
theorem dX12_judgeBody_40 : decode cX12_judgeBody 40 = .ok (.iconst 5, 1) := by decide +kernel
theorem dX12_judgeBody_41 : decode cX12_judgeBody 41 = .ok (.iload_n 3, 1) := by decide +kernel
theorem dX12_judgeBody_42 : decode cX12_judgeBody 42 = .ok (.invokevirtual 333, 3) := by decide +kernel
theorem dX12_judgeBody_45 : decode cX12_judgeBody 45 = .ok (.aload_n 0, 1) := by decide +kernel
theorem dX12_judgeBody_46 : decode cX12_judgeBody 46 = .ok (.getfield 36, 3) := by decide +kernel
theorem dX12_judgeBody_49 : decode cX12_judgeBody 49 = .ok (.bipush 6, 2) := by decide +kernel
theorem dX12_judgeBody_51 : decode cX12_judgeBody 51 = .ok (.iload_n 1, 1) := by decide +kernel
theorem dX12_judgeBody_52 : decode cX12_judgeBody 52 = .ok (.imul, 1) := by decide +kernel
theorem dX12_judgeBody_53 : decode cX12_judgeBody 53 = .ok (.iload_n 2, 1) := by decide +kernel
theorem dX12_judgeBody_54 : decode cX12_judgeBody 54 = .ok (.iadd, 1) := by decide +kernel
theorem dX12_judgeBody_55 : decode cX12_judgeBody 55 = .ok (.iaload, 1) := by decide +kernel
theorem dX12_judgeBody_56 : decode cX12_judgeBody 56 = .ok (.aload_n 0, 1) := by decide +kernel
theorem dX12_judgeBody_57 : decode cX12_judgeBody 57 = .ok (.getfield 36, 3) := by decide +kernel
theorem dX12_judgeBody_60 : decode cX12_judgeBody 60 = .ok (.bipush 6, 2) := by decide +kernel
theorem dX12_judgeBody_62 : decode cX12_judgeBody 62 = .ok (.iload 4, 2) := by decide +kernel
theorem dX12_judgeBody_64 : decode cX12_judgeBody 64 = .ok (.imul, 1) := by decide +kernel
theorem dX12_judgeBody_65 : decode cX12_judgeBody 65 = .ok (.iload_n 2, 1) := by decide +kernel
theorem dX12_judgeBody_66 : decode cX12_judgeBody 66 = .ok (.iadd, 1) := by decide +kernel
theorem dX12_judgeBody_67 : decode cX12_judgeBody 67 = .ok (.iaload, 1) := by decide +kernel
theorem dX12_judgeBody_68 : decode cX12_judgeBody 68 = .ok (.if_icmp .le 9, 3) := by decide +kernel
theorem dX12_judgeBody_71 : decode cX12_judgeBody 71 = .ok (.aload_n 0, 1) := by decide +kernel
theorem dX12_judgeBody_72 : decode cX12_judgeBody 72 = .ok (.iconst 4, 1) := by decide +kernel
theorem dX12_judgeBody_73 : decode cX12_judgeBody 73 = .ok (.iload_n 3, 1) := by decide +kernel
theorem dX12_judgeBody_74 : decode cX12_judgeBody 74 = .ok (.invokevirtual 333, 3) := by decide +kernel
theorem dX12_judgeBody_77 : decode cX12_judgeBody 77 = .ok (.aload_n 0, 1) := by decide +kernel
theorem dX12_judgeBody_78 : decode cX12_judgeBody 78 = .ok (.getfield 26, 3) := by decide +kernel
theorem dX12_judgeBody_81 : decode cX12_judgeBody 81 = .ok (.iload 4, 2) := by decide +kernel
theorem dX12_judgeBody_83 : decode cX12_judgeBody 83 = .ok (.iaload, 1) := by decide +kernel
theorem dX12_judgeBody_84 : decode cX12_judgeBody 84 = .ok (.istore 4, 2) := by decide +kernel
theorem dX12_judgeBody_86 : decode cX12_judgeBody 86 = .ok (.goto (-78), 3) := by decide +kernel
theorem dX12_judgeBody_89 : decode cX12_judgeBody 89 = .ok (.return_, 1) := by decide +kernel
theorem dX12_pack_0 : decode cX12_pack 0 = .ok (.aload_n 0, 1) := by decide +kernel
theorem dX12_pack_1 : decode cX12_pack 1 = .ok (.getfield 183, 3) := by decide +kernel
theorem dX12_pack_4 : decode cX12_pack 4 = .ok (.istore_n 1, 1) := by decide +kernel
theorem dX12_pack_5 : decode cX12_pack 5 = .ok (.aload_n 0, 1) := by decide +kernel
theorem dX12_pack_6 : decode cX12_pack 6 = .ok (.iconst 0, 1) := by decide +kernel
theorem dX12_pack_7 : decode cX12_pack 7 = .ok (.putfield 206, 3) := by decide +kernel
theorem dX12_pack_10 : decode cX12_pack 10 = .ok (.aload_n 0, 1) := by decide +kernel
theorem dX12_pack_11 : decode cX12_pack 11 = .ok (.iconst 1, 1) := by decide +kernel
theorem dX12_pack_12 : decode cX12_pack 12 = .ok (.putfield 277, 3) := by decide +kernel
theorem dX12_pack_15 : decode cX12_pack 15 = .ok (.aload_n 0, 1) := by decide +kernel
theorem dX12_pack_16 : decode cX12_pack 16 = .ok (.iconst 0, 1) := by decide +kernel
theorem dX12_pack_17 : decode cX12_pack 17 = .ok (.putfield 287, 3) := by decide +kernel
theorem dX12_pack_20 : decode cX12_pack 20 = .ok (.aload_n 0, 1) := by decide +kernel
theorem dX12_pack_21 : decode cX12_pack 21 = .ok (.iconst 0, 1) := by decide +kernel
theorem dX12_pack_22 : decode cX12_pack 22 = .ok (.putfield 339, 3) := by decide +kernel
theorem dX12_pack_25 : decode cX12_pack 25 = .ok (.aload_n 0, 1) := by decide +kernel
theorem dX12_pack_26 : decode cX12_pack 26 = .ok (.iconst 0, 1) := by decide +kernel
theorem dX12_pack_27 : decode cX12_pack 27 = .ok (.putfield 359, 3) := by decide +kernel
theorem dX12_pack_30 : decode cX12_pack 30 = .ok (.aload_n 0, 1) := by decide +kernel
theorem dX12_pack_31 : decode cX12_pack 31 = .ok (.iconst 0, 1) := by decide +kernel
theorem dX12_pack_32 : decode cX12_pack 32 = .ok (.putfield 390, 3) := by decide +kernel
theorem dX12_pack_35 : decode cX12_pack 35 = .ok (.aload_n 0, 1) := by decide +kernel
theorem dX12_pack_36 : decode cX12_pack 36 = .ok (.iconst (-1), 1) := by decide +kernel
theorem dX12_pack_37 : decode cX12_pack 37 = .ok (.putfield 76, 3) := by decide +kernel
theorem dX12_pack_40 : decode cX12_pack 40 = .ok (.aload_n 0, 1) := by decide +kernel
theorem dX12_pack_41 : decode cX12_pack 41 = .ok (.invokevirtual 422, 3) := by decide +kernel
theorem dX12_pack_44 : decode cX12_pack 44 = .ok (.istore_n 2, 1) := by decide +kernel
theorem dX12_pack_45 : decode cX12_pack 45 = .ok (.aload_n 0, 1) := by decide +kernel
theorem dX12_pack_46 : decode cX12_pack 46 = .ok (.iconst 0, 1) := by decide +kernel
theorem dX12_pack_47 : decode cX12_pack 47 = .ok (.putfield 186, 3) := by decide +kernel
theorem dX12_pack_50 : decode cX12_pack 50 = .ok (.iload_n 2, 1) := by decide +kernel
theorem dX12_pack_51 : decode cX12_pack 51 = .ok (.ifCond .ne 10, 3) := by decide +kernel
theorem dX12_pack_54 : decode cX12_pack 54 = .ok (.aload_n 0, 1) := by decide +kernel
theorem dX12_pack_55 : decode cX12_pack 55 = .ok (.iload_n 1, 1) := by decide +kernel
theorem dX12_pack_56 : decode cX12_pack 56 = .ok (.putfield 183, 3) := by decide +kernel
theorem dX12_pack_59 : decode cX12_pack 59 = .ok (.iconst 1, 1) := by decide +kernel
theorem dX12_pack_60 : decode cX12_pack 60 = .ok (.ireturn, 1) := by decide +kernel
theorem dX12_pack_61 : decode cX12_pack 61 = .ok (.aload_n 0, 1) := by decide +kernel
theorem dX12_pack_62 : decode cX12_pack 62 = .ok (.invokevirtual 425, 3) := by decide +kernel
theorem dX12_pack_65 : decode cX12_pack 65 = .ok (.aload_n 0, 1) := by decide +kernel
theorem dX12_pack_66 : decode cX12_pack 66 = .ok (.getfield 287, 3) := by decide +kernel
theorem dX12_pack_69 : decode cX12_pack 69 = .ok (.ifCond .le 21, 3) := by decide +kernel
theorem dX12_pack_72 : decode cX12_pack 72 = .ok (.aload_n 0, 1) := by decide +kernel
theorem dX12_pack_73 : decode cX12_pack 73 = .ok (.iload_n 1, 1) := by decide +kernel
theorem dX12_pack_74 : decode cX12_pack 74 = .ok (.putfield 183, 3) := by decide +kernel
theorem dX12_pack_77 : decode cX12_pack 77 = .ok (.aload_n 0, 1) := by decide +kernel
theorem dX12_pack_78 : decode cX12_pack 78 = .ok (.aload_n 0, 1) := by decide +kernel
theorem dX12_pack_79 : decode cX12_pack 79 = .ok (.getfield 290, 3) := by decide +kernel
theorem dX12_pack_82 : decode cX12_pack 82 = .ok (.putfield 76, 3) := by decide +kernel
theorem dX12_pack_85 : decode cX12_pack 85 = .ok (.aload_n 0, 1) := by decide +kernel
theorem dX12_pack_86 : decode cX12_pack 86 = .ok (.getfield 287, 3) := by decide +kernel
theorem dX12_pack_89 : decode cX12_pack 89 = .ok (.ireturn, 1) := by decide +kernel
theorem dX12_pack_90 : decode cX12_pack 90 = .ok (.aload_n 0, 1) := by decide +kernel
theorem dX12_pack_91 : decode cX12_pack 91 = .ok (.getfield 180, 3) := by decide +kernel
theorem dX12_pack_94 : decode cX12_pack 94 = .ok (.aload_n 0, 1) := by decide +kernel
theorem dX12_pack_95 : decode cX12_pack 95 = .ok (.getfield 339, 3) := by decide +kernel
theorem dX12_pack_98 : decode cX12_pack 98 = .ok (.iadd, 1) := by decide +kernel
theorem dX12_pack_99 : decode cX12_pack 99 = .ok (.bipush 40, 2) := by decide +kernel
theorem dX12_pack_101 : decode cX12_pack 101 = .ok (.if_icmp .gt 12, 3) := by decide +kernel
theorem dX12_pack_104 : decode cX12_pack 104 = .ok (.aload_n 0, 1) := by decide +kernel
theorem dX12_pack_105 : decode cX12_pack 105 = .ok (.getfield 330, 3) := by decide +kernel
theorem dX12_pack_108 : decode cX12_pack 108 = .ok (.bipush 12, 2) := by decide +kernel
theorem dX12_pack_110 : decode cX12_pack 110 = .ok (.if_icmp .ne 15, 3) := by decide +kernel
theorem dX12_pack_113 : decode cX12_pack 113 = .ok (.aload_n 0, 1) := by decide +kernel
theorem dX12_pack_114 : decode cX12_pack 114 = .ok (.iload_n 1, 1) := by decide +kernel
theorem dX12_pack_115 : decode cX12_pack 115 = .ok (.putfield 183, 3) := by decide +kernel
theorem dX12_pack_118 : decode cX12_pack 118 = .ok (.aload_n 0, 1) := by decide +kernel
theorem dX12_pack_119 : decode cX12_pack 119 = .ok (.bipush (-3), 2) := by decide +kernel
theorem dX12_pack_121 : decode cX12_pack 121 = .ok (.invokevirtual 189, 3) := by decide +kernel
theorem dX12_pack_124 : decode cX12_pack 124 = .ok (.ireturn, 1) := by decide +kernel
theorem dX12_pack_125 : decode cX12_pack 125 = .ok (.aload_n 0, 1) := by decide +kernel
theorem dX12_pack_126 : decode cX12_pack 126 = .ok (.dup, 1) := by decide +kernel
theorem dX12_pack_127 : decode cX12_pack 127 = .ok (.getfield 180, 3) := by decide +kernel
theorem dX12_pack_130 : decode cX12_pack 130 = .ok (.aload_n 0, 1) := by decide +kernel
theorem dX12_pack_131 : decode cX12_pack 131 = .ok (.getfield 339, 3) := by decide +kernel
theorem dX12_pack_134 : decode cX12_pack 134 = .ok (.iadd, 1) := by decide +kernel
theorem dX12_pack_135 : decode cX12_pack 135 = .ok (.putfield 180, 3) := by decide +kernel
theorem dX12_pack_138 : decode cX12_pack 138 = .ok (.aload_n 0, 1) := by decide +kernel
theorem dX12_pack_139 : decode cX12_pack 139 = .ok (.getfield 63, 3) := by decide +kernel
theorem dX12_pack_142 : decode cX12_pack 142 = .ok (.aload_n 0, 1) := by decide +kernel
theorem dX12_pack_143 : decode cX12_pack 143 = .ok (.getfield 330, 3) := by decide +kernel
theorem dX12_pack_146 : decode cX12_pack 146 = .ok (.aload_n 0, 1) := by decide +kernel
theorem dX12_pack_147 : decode cX12_pack 147 = .ok (.getfield 309, 3) := by decide +kernel
theorem dX12_pack_150 : decode cX12_pack 150 = .ok (.aastore, 1) := by decide +kernel
theorem dX12_pack_151 : decode cX12_pack 151 = .ok (.aload_n 0, 1) := by decide +kernel
theorem dX12_pack_152 : decode cX12_pack 152 = .ok (.getfield 66, 3) := by decide +kernel
theorem dX12_pack_155 : decode cX12_pack 155 = .ok (.aload_n 0, 1) := by decide +kernel
theorem dX12_pack_156 : decode cX12_pack 156 = .ok (.getfield 330, 3) := by decide +kernel
theorem dX12_pack_159 : decode cX12_pack 159 = .ok (.aload_n 0, 1) := by decide +kernel
theorem dX12_pack_160 : decode cX12_pack 160 = .ok (.getfield 313, 3) := by decide +kernel
theorem dX12_pack_163 : decode cX12_pack 163 = .ok (.iastore, 1) := by decide +kernel
theorem dX12_pack_164 : decode cX12_pack 164 = .ok (.aload_n 0, 1) := by decide +kernel
theorem dX12_pack_165 : decode cX12_pack 165 = .ok (.getfield 69, 3) := by decide +kernel
theorem dX12_pack_168 : decode cX12_pack 168 = .ok (.aload_n 0, 1) := by decide +kernel
theorem dX12_pack_169 : decode cX12_pack 169 = .ok (.getfield 330, 3) := by decide +kernel
theorem dX12_pack_172 : decode cX12_pack 172 = .ok (.iconst 0, 1) := by decide +kernel
theorem dX12_pack_173 : decode cX12_pack 173 = .ok (.bastore, 1) := by decide +kernel
theorem dX12_pack_174 : decode cX12_pack 174 = .ok (.aload_n 0, 1) := by decide +kernel
theorem dX12_pack_175 : decode cX12_pack 175 = .ok (.dup, 1) := by decide +kernel
theorem dX12_pack_176 : decode cX12_pack 176 = .ok (.getfield 72, 3) := by decide +kernel
theorem dX12_pack_179 : decode cX12_pack 179 = .ok (.aload_n 0, 1) := by decide +kernel
theorem dX12_pack_180 : decode cX12_pack 180 = .ok (.getfield 313, 3) := by decide +kernel
theorem dX12_pack_183 : decode cX12_pack 183 = .ok (.aload_n 0, 1) := by decide +kernel
theorem dX12_pack_184 : decode cX12_pack 184 = .ok (.getfield 72, 3) := by decide +kernel
theorem dX12_pack_187 : decode cX12_pack 187 = .ok (.if_icmp .ne 7, 3) := by decide +kernel
theorem dX12_pack_190 : decode cX12_pack 190 = .ok (.iconst 1, 1) := by decide +kernel
theorem dX12_pack_191 : decode cX12_pack 191 = .ok (.goto 4, 3) := by decide +kernel
theorem dX12_pack_194 : decode cX12_pack 194 = .ok (.iconst 0, 1) := by decide +kernel
theorem dX12_pack_195 : decode cX12_pack 195 = .ok (.iadd, 1) := by decide +kernel
theorem dX12_pack_196 : decode cX12_pack 196 = .ok (.putfield 72, 3) := by decide +kernel
theorem dX12_pack_199 : decode cX12_pack 199 = .ok (.aload_n 0, 1) := by decide +kernel
theorem dX12_pack_200 : decode cX12_pack 200 = .ok (.dup, 1) := by decide +kernel
theorem dX12_pack_201 : decode cX12_pack 201 = .ok (.getfield 330, 3) := by decide +kernel
theorem dX12_pack_204 : decode cX12_pack 204 = .ok (.iconst 1, 1) := by decide +kernel
theorem dX12_pack_205 : decode cX12_pack 205 = .ok (.iadd, 1) := by decide +kernel
theorem dX12_pack_206 : decode cX12_pack 206 = .ok (.putfield 330, 3) := by decide +kernel
theorem dX12_pack_209 : decode cX12_pack 209 = .ok (.iconst 0, 1) := by decide +kernel
theorem dX12_pack_210 : decode cX12_pack 210 = .ok (.ireturn, 1) := by decide +kernel
theorem dX12_place_0 : decode cX12_place 0 = .ok (.aload_n 0, 1) := by decide +kernel
theorem dX12_place_1 : decode cX12_place 1 = .ok (.getfield 76, 3) := by decide +kernel
theorem dX12_place_4 : decode cX12_place 4 = .ok (.ireturn, 1) := by decide +kernel
theorem dX12_retire_0 : decode cX12_retire 0 = .ok (.iload_n 1, 1) := by decide +kernel
theorem dX12_retire_1 : decode cX12_retire 1 = .ok (.ifCond .lt 11, 3) := by decide +kernel
theorem dX12_retire_4 : decode cX12_retire 4 = .ok (.iload_n 1, 1) := by decide +kernel
theorem dX12_retire_5 : decode cX12_retire 5 = .ok (.aload_n 0, 1) := by decide +kernel
theorem dX12_retire_6 : decode cX12_retire 6 = .ok (.getfield 330, 3) := by decide +kernel
theorem dX12_retire_9 : decode cX12_retire 9 = .ok (.if_icmp .lt 9, 3) := by decide +kernel
theorem dX12_retire_12 : decode cX12_retire 12 = .ok (.aload_n 0, 1) := by decide +kernel
theorem dX12_retire_13 : decode cX12_retire 13 = .ok (.iconst (-1), 1) := by decide +kernel
theorem dX12_retire_14 : decode cX12_retire 14 = .ok (.invokevirtual 189, 3) := by decide +kernel
theorem dX12_retire_17 : decode cX12_retire 17 = .ok (.ireturn, 1) := by decide +kernel
theorem dX12_retire_18 : decode cX12_retire 18 = .ok (.aload_n 0, 1) := by decide +kernel
theorem dX12_retire_19 : decode cX12_retire 19 = .ok (.getfield 69, 3) := by decide +kernel
theorem dX12_retire_22 : decode cX12_retire 22 = .ok (.iload_n 1, 1) := by decide +kernel
theorem dX12_retire_23 : decode cX12_retire 23 = .ok (.baload, 1) := by decide +kernel
theorem dX12_retire_24 : decode cX12_retire 24 = .ok (.ifCond .eq 7, 3) := by decide +kernel
theorem dX12_retire_27 : decode cX12_retire 27 = .ok (.iconst 0, 1) := by decide +kernel
theorem dX12_retire_28 : decode cX12_retire 28 = .ok (.goto 4, 3) := by decide +kernel
theorem dX12_retire_31 : decode cX12_retire 31 = .ok (.iconst 1, 1) := by decide +kernel
theorem dX12_retire_32 : decode cX12_retire 32 = .ok (.istore_n 2, 1) := by decide +kernel
theorem dX12_retire_33 : decode cX12_retire 33 = .ok (.aload_n 0, 1) := by decide +kernel
theorem dX12_retire_34 : decode cX12_retire 34 = .ok (.getfield 69, 3) := by decide +kernel
theorem dX12_retire_37 : decode cX12_retire 37 = .ok (.iload_n 1, 1) := by decide +kernel
theorem dX12_retire_38 : decode cX12_retire 38 = .ok (.iconst 1, 1) := by decide +kernel
theorem dX12_retire_39 : decode cX12_retire 39 = .ok (.bastore, 1) := by decide +kernel
theorem dX12_retire_40 : decode cX12_retire 40 = .ok (.iload_n 2, 1) := by decide +kernel
theorem dX12_retire_41 : decode cX12_retire 41 = .ok (.ireturn, 1) := by decide +kernel
theorem dX12_isKind_0 : decode cX12_isKind 0 = .ok (.iload_n 1, 1) := by decide +kernel
theorem dX12_isKind_1 : decode cX12_isKind 1 = .ok (.ifCond .lt 15, 3) := by decide +kernel
theorem dX12_isKind_4 : decode cX12_isKind 4 = .ok (.iload_n 1, 1) := by decide +kernel
theorem dX12_isKind_5 : decode cX12_isKind 5 = .ok (.aload_n 0, 1) := by decide +kernel
theorem dX12_isKind_6 : decode cX12_isKind 6 = .ok (.getfield 180, 3) := by decide +kernel
theorem dX12_isKind_9 : decode cX12_isKind 9 = .ok (.if_icmp .ge 7, 3) := by decide +kernel
theorem dX12_isKind_12 : decode cX12_isKind 12 = .ok (.iconst 1, 1) := by decide +kernel
theorem dX12_isKind_13 : decode cX12_isKind 13 = .ok (.goto 4, 3) := by decide +kernel
theorem dX12_isKind_16 : decode cX12_isKind 16 = .ok (.iconst 0, 1) := by decide +kernel
theorem dX12_isKind_17 : decode cX12_isKind 17 = .ok (.ireturn, 1) := by decide +kernel
theorem dX12_isHook_0 : decode cX12_isHook 0 = .ok (.iload_n 0, 1) := by decide +kernel
theorem dX12_isHook_1 : decode cX12_isHook 1 = .ok (.ifCond .lt 13, 3) := by decide +kernel
theorem dX12_isHook_4 : decode cX12_isHook 4 = .ok (.iload_n 0, 1) := by decide +kernel
theorem dX12_isHook_5 : decode cX12_isHook 5 = .ok (.bipush 6, 2) := by decide +kernel
theorem dX12_isHook_7 : decode cX12_isHook 7 = .ok (.if_icmp .ge 7, 3) := by decide +kernel
theorem dX12_isHook_10 : decode cX12_isHook 10 = .ok (.iconst 1, 1) := by decide +kernel
theorem dX12_isHook_11 : decode cX12_isHook 11 = .ok (.goto 4, 3) := by decide +kernel
theorem dX12_isHook_14 : decode cX12_isHook 14 = .ok (.iconst 0, 1) := by decide +kernel
theorem dX12_isHook_15 : decode cX12_isHook 15 = .ok (.ireturn, 1) := by decide +kernel
theorem dX12_kind_0 : decode cX12_kind 0 = .ok (.aload_n 0, 1) := by decide +kernel
theorem dX12_kind_1 : decode cX12_kind 1 = .ok (.iload_n 1, 1) := by decide +kernel
theorem dX12_kind_2 : decode cX12_kind 2 = .ok (.invokevirtual 428, 3) := by decide +kernel
theorem dX12_kind_5 : decode cX12_kind 5 = .ok (.ifCond .eq 12, 3) := by decide +kernel
theorem dX12_kind_8 : decode cX12_kind 8 = .ok (.iload_n 2, 1) := by decide +kernel
theorem dX12_kind_9 : decode cX12_kind 9 = .ok (.ifCond .lt 8, 3) := by decide +kernel
theorem dX12_kind_12 : decode cX12_kind 12 = .ok (.iload_n 2, 1) := by decide +kernel
theorem dX12_kind_13 : decode cX12_kind 13 = .ok (.iconst 4, 1) := by decide +kernel
theorem dX12_kind_14 : decode cX12_kind 14 = .ok (.if_icmp .le 9, 3) := by decide +kernel
theorem dX12_kind_17 : decode cX12_kind 17 = .ok (.aload_n 0, 1) := by decide +kernel
theorem dX12_kind_18 : decode cX12_kind 18 = .ok (.iconst (-1), 1) := by decide +kernel
theorem dX12_kind_19 : decode cX12_kind 19 = .ok (.invokevirtual 189, 3) := by decide +kernel
theorem dX12_kind_22 : decode cX12_kind 22 = .ok (.ireturn, 1) := by decide +kernel
theorem dX12_kind_23 : decode cX12_kind 23 = .ok (.iconst 0, 1) := by decide +kernel
theorem dX12_kind_24 : decode cX12_kind 24 = .ok (.istore_n 3, 1) := by decide +kernel
theorem dX12_kind_25 : decode cX12_kind 25 = .ok (.iload_n 2, 1) := by decide +kernel
theorem dX12_kind_26 : decode cX12_kind 26 = .ok (.tableswitch 104 0 3 #[30, 37, 58, 65], 30) := by decide +kernel
theorem dX12_kind_56 : decode cX12_kind 56 = .ok (.aload_n 0, 1) := by decide +kernel
theorem dX12_kind_57 : decode cX12_kind 57 = .ok (.getfield 23, 3) := by decide +kernel
theorem dX12_kind_60 : decode cX12_kind 60 = .ok (.iload_n 1, 1) := by decide +kernel
theorem dX12_kind_61 : decode cX12_kind 61 = .ok (.iaload, 1) := by decide +kernel
theorem dX12_kind_62 : decode cX12_kind 62 = .ok (.ireturn, 1) := by decide +kernel
theorem dX12_kind_63 : decode cX12_kind 63 = .ok (.aload_n 0, 1) := by decide +kernel
theorem dX12_kind_64 : decode cX12_kind 64 = .ok (.getfield 26, 3) := by decide +kernel
theorem dX12_kind_67 : decode cX12_kind 67 = .ok (.iload_n 1, 1) := by decide +kernel
theorem dX12_kind_68 : decode cX12_kind 68 = .ok (.iaload, 1) := by decide +kernel
theorem dX12_kind_69 : decode cX12_kind 69 = .ok (.ifCond .ge 8, 3) := by decide +kernel
theorem dX12_kind_72 : decode cX12_kind 72 = .ok (.bipush (-7), 2) := by decide +kernel
theorem dX12_kind_74 : decode cX12_kind 74 = .ok (.goto 9, 3) := by decide +kernel
theorem dX12_kind_77 : decode cX12_kind 77 = .ok (.aload_n 0, 1) := by decide +kernel
theorem dX12_kind_78 : decode cX12_kind 78 = .ok (.getfield 26, 3) := by decide +kernel
theorem dX12_kind_81 : decode cX12_kind 81 = .ok (.iload_n 1, 1) := by decide +kernel
theorem dX12_kind_82 : decode cX12_kind 82 = .ok (.iaload, 1) := by decide +kernel
theorem dX12_kind_83 : decode cX12_kind 83 = .ok (.ireturn, 1) := by decide +kernel
theorem dX12_kind_84 : decode cX12_kind 84 = .ok (.aload_n 0, 1) := by decide +kernel
theorem dX12_kind_85 : decode cX12_kind 85 = .ok (.getfield 29, 3) := by decide +kernel
theorem dX12_kind_88 : decode cX12_kind 88 = .ok (.iload_n 1, 1) := by decide +kernel
theorem dX12_kind_89 : decode cX12_kind 89 = .ok (.iaload, 1) := by decide +kernel
theorem dX12_kind_90 : decode cX12_kind 90 = .ok (.ireturn, 1) := by decide +kernel
theorem dX12_kind_91 : decode cX12_kind 91 = .ok (.iconst 0, 1) := by decide +kernel
theorem dX12_kind_92 : decode cX12_kind 92 = .ok (.istore 4, 2) := by decide +kernel
theorem dX12_kind_94 : decode cX12_kind 94 = .ok (.iload 4, 2) := by decide +kernel
theorem dX12_kind_96 : decode cX12_kind 96 = .ok (.bipush 6, 2) := by decide +kernel
theorem dX12_kind_98 : decode cX12_kind 98 = .ok (.if_icmp .ge 30, 3) := by decide +kernel
theorem dX12_kind_101 : decode cX12_kind 101 = .ok (.iload_n 3, 1) := by decide +kernel
theorem dX12_kind_102 : decode cX12_kind 102 = .ok (.aload_n 0, 1) := by decide +kernel
theorem dX12_kind_103 : decode cX12_kind 103 = .ok (.iload_n 1, 1) := by decide +kernel
theorem dX12_kind_104 : decode cX12_kind 104 = .ok (.iload 4, 2) := by decide +kernel
theorem dX12_kind_106 : decode cX12_kind 106 = .ok (.invokevirtual 196, 3) := by decide +kernel
theorem dX12_kind_109 : decode cX12_kind 109 = .ok (.ifCond .eq 10, 3) := by decide +kernel
theorem dX12_kind_112 : decode cX12_kind 112 = .ok (.iconst 1, 1) := by decide +kernel
theorem dX12_kind_113 : decode cX12_kind 113 = .ok (.iload 4, 2) := by decide +kernel
theorem dX12_kind_115 : decode cX12_kind 115 = .ok (.ishl, 1) := by decide +kernel
theorem dX12_kind_116 : decode cX12_kind 116 = .ok (.goto 4, 3) := by decide +kernel
theorem dX12_kind_119 : decode cX12_kind 119 = .ok (.iconst 0, 1) := by decide +kernel
theorem dX12_kind_120 : decode cX12_kind 120 = .ok (.ior, 1) := by decide +kernel
theorem dX12_kind_121 : decode cX12_kind 121 = .ok (.istore_n 3, 1) := by decide +kernel
theorem dX12_kind_122 : decode cX12_kind 122 = .ok (.iinc 4 1, 3) := by decide +kernel
theorem dX12_kind_125 : decode cX12_kind 125 = .ok (.goto (-31), 3) := by decide +kernel
theorem dX12_kind_128 : decode cX12_kind 128 = .ok (.iload_n 3, 1) := by decide +kernel
theorem dX12_kind_129 : decode cX12_kind 129 = .ok (.ireturn, 1) := by decide +kernel
theorem dX12_kind_130 : decode cX12_kind 130 = .ok (.aload_n 0, 1) := by decide +kernel
theorem dX12_kind_131 : decode cX12_kind 131 = .ok (.getfield 26, 3) := by decide +kernel
theorem dX12_kind_134 : decode cX12_kind 134 = .ok (.iload_n 1, 1) := by decide +kernel
theorem dX12_kind_135 : decode cX12_kind 135 = .ok (.iaload, 1) := by decide +kernel
theorem dX12_kind_136 : decode cX12_kind 136 = .ok (.istore 4, 2) := by decide +kernel
theorem dX12_kind_138 : decode cX12_kind 138 = .ok (.iload 4, 2) := by decide +kernel
theorem dX12_kind_140 : decode cX12_kind 140 = .ok (.ifCond .lt 18, 3) := by decide +kernel
theorem dX12_kind_143 : decode cX12_kind 143 = .ok (.iinc 3 1, 3) := by decide +kernel
theorem dX12_kind_146 : decode cX12_kind 146 = .ok (.aload_n 0, 1) := by decide +kernel
theorem dX12_kind_147 : decode cX12_kind 147 = .ok (.getfield 26, 3) := by decide +kernel
theorem dX12_kind_150 : decode cX12_kind 150 = .ok (.iload 4, 2) := by decide +kernel
theorem dX12_kind_152 : decode cX12_kind 152 = .ok (.iaload, 1) := by decide +kernel
theorem dX12_kind_153 : decode cX12_kind 153 = .ok (.istore 4, 2) := by decide +kernel
theorem dX12_kind_155 : decode cX12_kind 155 = .ok (.goto (-17), 3) := by decide +kernel
theorem dX12_kind_158 : decode cX12_kind 158 = .ok (.iload_n 3, 1) := by decide +kernel
theorem dX12_kind_159 : decode cX12_kind 159 = .ok (.ireturn, 1) := by decide +kernel
theorem dX12_body__0 : decode cX12_body_ 0 = .ok (.aload_n 0, 1) := by decide +kernel
theorem dX12_body__1 : decode cX12_body_ 1 = .ok (.iload_n 1, 1) := by decide +kernel
theorem dX12_body__2 : decode cX12_body_ 2 = .ok (.invokevirtual 428, 3) := by decide +kernel
theorem dX12_body__5 : decode cX12_body_ 5 = .ok (.ifCond .eq 19, 3) := by decide +kernel
theorem dX12_body__8 : decode cX12_body_ 8 = .ok (.iload_n 2, 1) := by decide +kernel
theorem dX12_body__9 : decode cX12_body_ 9 = .ok (.invokestatic 431, 3) := by decide +kernel
theorem dX12_body__12 : decode cX12_body_ 12 = .ok (.ifCond .eq 12, 3) := by decide +kernel
theorem dX12_body__15 : decode cX12_body_ 15 = .ok (.iload_n 3, 1) := by decide +kernel
theorem dX12_body__16 : decode cX12_body_ 16 = .ok (.ifCond .lt 8, 3) := by decide +kernel
theorem dX12_body__19 : decode cX12_body_ 19 = .ok (.iload_n 3, 1) := by decide +kernel
theorem dX12_body__20 : decode cX12_body_ 20 = .ok (.iconst 2, 1) := by decide +kernel
theorem dX12_body__21 : decode cX12_body_ 21 = .ok (.if_icmp .le 9, 3) := by decide +kernel
theorem dX12_body__24 : decode cX12_body_ 24 = .ok (.aload_n 0, 1) := by decide +kernel
theorem dX12_body__25 : decode cX12_body_ 25 = .ok (.iconst (-1), 1) := by decide +kernel
theorem dX12_body__26 : decode cX12_body_ 26 = .ok (.invokevirtual 189, 3) := by decide +kernel
theorem dX12_body__29 : decode cX12_body_ 29 = .ok (.ireturn, 1) := by decide +kernel
theorem dX12_body__30 : decode cX12_body_ 30 = .ok (.aload_n 0, 1) := by decide +kernel
theorem dX12_body__31 : decode cX12_body_ 31 = .ok (.iload_n 1, 1) := by decide +kernel
theorem dX12_body__32 : decode cX12_body_ 32 = .ok (.iload_n 2, 1) := by decide +kernel
theorem dX12_body__33 : decode cX12_body_ 33 = .ok (.invokevirtual 196, 3) := by decide +kernel
theorem dX12_body__36 : decode cX12_body_ 36 = .ok (.ifCond .ne 10, 3) := by decide +kernel
theorem dX12_body__39 : decode cX12_body_ 39 = .ok (.aload_n 0, 1) := by decide +kernel
theorem dX12_body__40 : decode cX12_body_ 40 = .ok (.bipush (-2), 2) := by decide +kernel
theorem dX12_body__42 : decode cX12_body_ 42 = .ok (.invokevirtual 189, 3) := by decide +kernel
theorem dX12_body__45 : decode cX12_body_ 45 = .ok (.ireturn, 1) := by decide +kernel
theorem dX12_body__46 : decode cX12_body_ 46 = .ok (.bipush 6, 2) := by decide +kernel
theorem dX12_body__48 : decode cX12_body_ 48 = .ok (.iload_n 1, 1) := by decide +kernel
theorem dX12_body__49 : decode cX12_body_ 49 = .ok (.imul, 1) := by decide +kernel
theorem dX12_body__50 : decode cX12_body_ 50 = .ok (.iload_n 2, 1) := by decide +kernel
theorem dX12_body__51 : decode cX12_body_ 51 = .ok (.iadd, 1) := by decide +kernel
theorem dX12_body__52 : decode cX12_body_ 52 = .ok (.istore 4, 2) := by decide +kernel
theorem dX12_body__54 : decode cX12_body_ 54 = .ok (.iload_n 3, 1) := by decide +kernel
theorem dX12_body__55 : decode cX12_body_ 55 = .ok (.ifCond .ne 13, 3) := by decide +kernel
theorem dX12_body__58 : decode cX12_body_ 58 = .ok (.aload_n 0, 1) := by decide +kernel
theorem dX12_body__59 : decode cX12_body_ 59 = .ok (.getfield 36, 3) := by decide +kernel
theorem dX12_body__62 : decode cX12_body_ 62 = .ok (.iload 4, 2) := by decide +kernel
theorem dX12_body__64 : decode cX12_body_ 64 = .ok (.iaload, 1) := by decide +kernel
theorem dX12_body__65 : decode cX12_body_ 65 = .ok (.goto 33, 3) := by decide +kernel
theorem dX12_body__68 : decode cX12_body_ 68 = .ok (.iload_n 3, 1) := by decide +kernel
theorem dX12_body__69 : decode cX12_body_ 69 = .ok (.iconst 1, 1) := by decide +kernel
theorem dX12_body__70 : decode cX12_body_ 70 = .ok (.if_icmp .ne 21, 3) := by decide +kernel
theorem dX12_body__73 : decode cX12_body_ 73 = .ok (.aload_n 0, 1) := by decide +kernel
theorem dX12_body__74 : decode cX12_body_ 74 = .ok (.getfield 39, 3) := by decide +kernel
theorem dX12_body__77 : decode cX12_body_ 77 = .ok (.iload 4, 2) := by decide +kernel
theorem dX12_body__79 : decode cX12_body_ 79 = .ok (.baload, 1) := by decide +kernel
theorem dX12_body__80 : decode cX12_body_ 80 = .ok (.ifCond .eq 7, 3) := by decide +kernel
theorem dX12_body__83 : decode cX12_body_ 83 = .ok (.iconst 1, 1) := by decide +kernel
theorem dX12_body__84 : decode cX12_body_ 84 = .ok (.goto 14, 3) := by decide +kernel
theorem dX12_body__87 : decode cX12_body_ 87 = .ok (.iconst 0, 1) := by decide +kernel
theorem dX12_body__88 : decode cX12_body_ 88 = .ok (.goto 10, 3) := by decide +kernel
theorem dX12_body__91 : decode cX12_body_ 91 = .ok (.aload_n 0, 1) := by decide +kernel
theorem dX12_body__92 : decode cX12_body_ 92 = .ok (.getfield 45, 3) := by decide +kernel
theorem dX12_body__95 : decode cX12_body_ 95 = .ok (.iload 4, 2) := by decide +kernel
theorem dX12_body__97 : decode cX12_body_ 97 = .ok (.iaload, 1) := by decide +kernel
theorem dX12_body__98 : decode cX12_body_ 98 = .ok (.ireturn, 1) := by decide +kernel
theorem dX12_overrides_0 : decode cX12_overrides 0 = .ok (.aload_n 0, 1) := by decide +kernel
theorem dX12_overrides_1 : decode cX12_overrides 1 = .ok (.iload_n 1, 1) := by decide +kernel
theorem dX12_overrides_2 : decode cX12_overrides 2 = .ok (.invokevirtual 428, 3) := by decide +kernel
theorem dX12_overrides_5 : decode cX12_overrides 5 = .ok (.ifCond .eq 18, 3) := by decide +kernel
theorem dX12_overrides_8 : decode cX12_overrides 8 = .ok (.aload_n 0, 1) := by decide +kernel
theorem dX12_overrides_9 : decode cX12_overrides 9 = .ok (.iload_n 3, 1) := by decide +kernel
theorem dX12_overrides_10 : decode cX12_overrides 10 = .ok (.invokevirtual 428, 3) := by decide +kernel
theorem dX12_overrides_13 : decode cX12_overrides 13 = .ok (.ifCond .eq 10, 3) := by decide +kernel
theorem dX12_overrides_16 : decode cX12_overrides 16 = .ok (.iload_n 2, 1) := by decide +kernel
theorem dX12_overrides_17 : decode cX12_overrides 17 = .ok (.invokestatic 431, 3) := by decide +kernel
theorem dX12_overrides_20 : decode cX12_overrides 20 = .ok (.ifCond .ne 9, 3) := by decide +kernel
theorem dX12_overrides_23 : decode cX12_overrides 23 = .ok (.aload_n 0, 1) := by decide +kernel
theorem dX12_overrides_24 : decode cX12_overrides 24 = .ok (.iconst (-1), 1) := by decide +kernel
theorem dX12_overrides_25 : decode cX12_overrides 25 = .ok (.invokevirtual 189, 3) := by decide +kernel
theorem dX12_overrides_28 : decode cX12_overrides 28 = .ok (.ireturn, 1) := by decide +kernel
theorem dX12_overrides_29 : decode cX12_overrides 29 = .ok (.aload_n 0, 1) := by decide +kernel
theorem dX12_overrides_30 : decode cX12_overrides 30 = .ok (.iload_n 1, 1) := by decide +kernel
theorem dX12_overrides_31 : decode cX12_overrides 31 = .ok (.iload_n 2, 1) := by decide +kernel
theorem dX12_overrides_32 : decode cX12_overrides 32 = .ok (.invokevirtual 196, 3) := by decide +kernel
theorem dX12_overrides_35 : decode cX12_overrides 35 = .ok (.ifCond .eq 12, 3) := by decide +kernel
theorem dX12_overrides_38 : decode cX12_overrides 38 = .ok (.aload_n 0, 1) := by decide +kernel
theorem dX12_overrides_39 : decode cX12_overrides 39 = .ok (.iload_n 3, 1) := by decide +kernel
theorem dX12_overrides_40 : decode cX12_overrides 40 = .ok (.iload_n 2, 1) := by decide +kernel
theorem dX12_overrides_41 : decode cX12_overrides 41 = .ok (.invokevirtual 196, 3) := by decide +kernel
theorem dX12_overrides_44 : decode cX12_overrides 44 = .ok (.ifCond .ne 10, 3) := by decide +kernel
theorem dX12_overrides_47 : decode cX12_overrides 47 = .ok (.aload_n 0, 1) := by decide +kernel
theorem dX12_overrides_48 : decode cX12_overrides 48 = .ok (.bipush (-2), 2) := by decide +kernel
theorem dX12_overrides_50 : decode cX12_overrides 50 = .ok (.invokevirtual 189, 3) := by decide +kernel
theorem dX12_overrides_53 : decode cX12_overrides 53 = .ok (.ireturn, 1) := by decide +kernel
theorem dX12_overrides_54 : decode cX12_overrides 54 = .ok (.aload_n 0, 1) := by decide +kernel
theorem dX12_overrides_55 : decode cX12_overrides 55 = .ok (.iload_n 1, 1) := by decide +kernel
theorem dX12_overrides_56 : decode cX12_overrides 56 = .ok (.iload_n 2, 1) := by decide +kernel
theorem dX12_overrides_57 : decode cX12_overrides 57 = .ok (.iload_n 3, 1) := by decide +kernel
theorem dX12_overrides_58 : decode cX12_overrides 58 = .ok (.invokevirtual 203, 3) := by decide +kernel
theorem dX12_overrides_61 : decode cX12_overrides 61 = .ok (.ifCond .eq 7, 3) := by decide +kernel
theorem dX12_overrides_64 : decode cX12_overrides 64 = .ok (.iconst 1, 1) := by decide +kernel
theorem dX12_overrides_65 : decode cX12_overrides 65 = .ok (.goto 4, 3) := by decide +kernel
theorem dX12_overrides_68 : decode cX12_overrides 68 = .ok (.iconst 0, 1) := by decide +kernel
theorem dX12_overrides_69 : decode cX12_overrides 69 = .ok (.ireturn, 1) := by decide +kernel
theorem dX12_chosen_0 : decode cX12_chosen 0 = .ok (.aload_n 0, 1) := by decide +kernel
theorem dX12_chosen_1 : decode cX12_chosen 1 = .ok (.iload_n 3, 1) := by decide +kernel
theorem dX12_chosen_2 : decode cX12_chosen 2 = .ok (.invokevirtual 428, 3) := by decide +kernel
theorem dX12_chosen_5 : decode cX12_chosen 5 = .ok (.ifCond .eq 18, 3) := by decide +kernel
theorem dX12_chosen_8 : decode cX12_chosen 8 = .ok (.aload_n 0, 1) := by decide +kernel
theorem dX12_chosen_9 : decode cX12_chosen 9 = .ok (.iload_n 1, 1) := by decide +kernel
theorem dX12_chosen_10 : decode cX12_chosen 10 = .ok (.invokevirtual 428, 3) := by decide +kernel
theorem dX12_chosen_13 : decode cX12_chosen 13 = .ok (.ifCond .eq 10, 3) := by decide +kernel
theorem dX12_chosen_16 : decode cX12_chosen 16 = .ok (.iload_n 2, 1) := by decide +kernel
theorem dX12_chosen_17 : decode cX12_chosen 17 = .ok (.invokestatic 431, 3) := by decide +kernel
theorem dX12_chosen_20 : decode cX12_chosen 20 = .ok (.ifCond .ne 9, 3) := by decide +kernel
theorem dX12_chosen_23 : decode cX12_chosen 23 = .ok (.aload_n 0, 1) := by decide +kernel
theorem dX12_chosen_24 : decode cX12_chosen 24 = .ok (.iconst (-1), 1) := by decide +kernel
theorem dX12_chosen_25 : decode cX12_chosen 25 = .ok (.invokevirtual 189, 3) := by decide +kernel
theorem dX12_chosen_28 : decode cX12_chosen 28 = .ok (.ireturn, 1) := by decide +kernel
theorem dX12_chosen_29 : decode cX12_chosen 29 = .ok (.aload_n 0, 1) := by decide +kernel
theorem dX12_chosen_30 : decode cX12_chosen 30 = .ok (.iload_n 1, 1) := by decide +kernel
theorem dX12_chosen_31 : decode cX12_chosen 31 = .ok (.iload_n 2, 1) := by decide +kernel
theorem dX12_chosen_32 : decode cX12_chosen 32 = .ok (.invokevirtual 196, 3) := by decide +kernel
theorem dX12_chosen_35 : decode cX12_chosen 35 = .ok (.ifCond .eq 17, 3) := by decide +kernel
theorem dX12_chosen_38 : decode cX12_chosen 38 = .ok (.iload_n 3, 1) := by decide +kernel
theorem dX12_chosen_39 : decode cX12_chosen 39 = .ok (.iload_n 1, 1) := by decide +kernel
theorem dX12_chosen_40 : decode cX12_chosen 40 = .ok (.if_icmp .eq 19, 3) := by decide +kernel
theorem dX12_chosen_43 : decode cX12_chosen 43 = .ok (.aload_n 0, 1) := by decide +kernel
theorem dX12_chosen_44 : decode cX12_chosen 44 = .ok (.iload_n 3, 1) := by decide +kernel
theorem dX12_chosen_45 : decode cX12_chosen 45 = .ok (.iload_n 1, 1) := by decide +kernel
theorem dX12_chosen_46 : decode cX12_chosen 46 = .ok (.invokevirtual 192, 3) := by decide +kernel
theorem dX12_chosen_49 : decode cX12_chosen 49 = .ok (.ifCond .ne 10, 3) := by decide +kernel
theorem dX12_chosen_52 : decode cX12_chosen 52 = .ok (.aload_n 0, 1) := by decide +kernel
theorem dX12_chosen_53 : decode cX12_chosen 53 = .ok (.bipush (-2), 2) := by decide +kernel
theorem dX12_chosen_55 : decode cX12_chosen 55 = .ok (.invokevirtual 189, 3) := by decide +kernel
theorem dX12_chosen_58 : decode cX12_chosen 58 = .ok (.ireturn, 1) := by decide +kernel
theorem dX12_chosen_59 : decode cX12_chosen 59 = .ok (.aload_n 0, 1) := by decide +kernel
theorem dX12_chosen_60 : decode cX12_chosen 60 = .ok (.iload_n 1, 1) := by decide +kernel
theorem dX12_chosen_61 : decode cX12_chosen 61 = .ok (.iload_n 2, 1) := by decide +kernel
theorem dX12_chosen_62 : decode cX12_chosen 62 = .ok (.iload_n 3, 1) := by decide +kernel
theorem dX12_chosen_63 : decode cX12_chosen 63 = .ok (.invokevirtual 434, 3) := by decide +kernel
theorem dX12_chosen_66 : decode cX12_chosen 66 = .ok (.ireturn, 1) := by decide +kernel
theorem dX12_resolved_0 : decode cX12_resolved 0 = .ok (.aload_n 0, 1) := by decide +kernel
theorem dX12_resolved_1 : decode cX12_resolved 1 = .ok (.iload_n 1, 1) := by decide +kernel
theorem dX12_resolved_2 : decode cX12_resolved 2 = .ok (.invokevirtual 428, 3) := by decide +kernel
theorem dX12_resolved_5 : decode cX12_resolved 5 = .ok (.ifCond .eq 10, 3) := by decide +kernel
theorem dX12_resolved_8 : decode cX12_resolved 8 = .ok (.iload_n 2, 1) := by decide +kernel
theorem dX12_resolved_9 : decode cX12_resolved 9 = .ok (.invokestatic 431, 3) := by decide +kernel
theorem dX12_resolved_12 : decode cX12_resolved 12 = .ok (.ifCond .ne 9, 3) := by decide +kernel
theorem dX12_resolved_15 : decode cX12_resolved 15 = .ok (.aload_n 0, 1) := by decide +kernel
theorem dX12_resolved_16 : decode cX12_resolved 16 = .ok (.iconst (-1), 1) := by decide +kernel
theorem dX12_resolved_17 : decode cX12_resolved 17 = .ok (.invokevirtual 189, 3) := by decide +kernel
theorem dX12_resolved_20 : decode cX12_resolved 20 = .ok (.ireturn, 1) := by decide +kernel
theorem dX12_resolved_21 : decode cX12_resolved 21 = .ok (.aload_n 0, 1) := by decide +kernel
theorem dX12_resolved_22 : decode cX12_resolved 22 = .ok (.iload_n 1, 1) := by decide +kernel
theorem dX12_resolved_23 : decode cX12_resolved 23 = .ok (.iload_n 2, 1) := by decide +kernel
theorem dX12_resolved_24 : decode cX12_resolved 24 = .ok (.iload_n 3, 1) := by decide +kernel
theorem dX12_resolved_25 : decode cX12_resolved 25 = .ok (.ifCond .eq 12, 3) := by decide +kernel
theorem dX12_resolved_28 : decode cX12_resolved 28 = .ok (.aload_n 0, 1) := by decide +kernel
theorem dX12_resolved_29 : decode cX12_resolved 29 = .ok (.getfield 26, 3) := by decide +kernel
theorem dX12_resolved_32 : decode cX12_resolved 32 = .ok (.iload_n 1, 1) := by decide +kernel
theorem dX12_resolved_33 : decode cX12_resolved 33 = .ok (.iaload, 1) := by decide +kernel
theorem dX12_resolved_34 : decode cX12_resolved 34 = .ok (.goto 4, 3) := by decide +kernel
theorem dX12_resolved_37 : decode cX12_resolved 37 = .ok (.iload_n 1, 1) := by decide +kernel
theorem dX12_resolved_38 : decode cX12_resolved 38 = .ok (.invokevirtual 419, 3) := by decide +kernel
theorem dX12_resolved_41 : decode cX12_resolved 41 = .ok (.istore 4, 2) := by decide +kernel
theorem dX12_resolved_43 : decode cX12_resolved 43 = .ok (.iload 4, 2) := by decide +kernel
theorem dX12_resolved_45 : decode cX12_resolved 45 = .ok (.ifCond .ge 12, 3) := by decide +kernel
theorem dX12_resolved_48 : decode cX12_resolved 48 = .ok (.aload_n 0, 1) := by decide +kernel
theorem dX12_resolved_49 : decode cX12_resolved 49 = .ok (.bipush (-2), 2) := by decide +kernel
theorem dX12_resolved_51 : decode cX12_resolved 51 = .ok (.invokevirtual 189, 3) := by decide +kernel
theorem dX12_resolved_54 : decode cX12_resolved 54 = .ok (.goto 5, 3) := by decide +kernel
theorem dX12_resolved_57 : decode cX12_resolved 57 = .ok (.iload 4, 2) := by decide +kernel
theorem dX12_resolved_59 : decode cX12_resolved 59 = .ok (.ireturn, 1) := by decide +kernel
theorem dX12_count_0 : decode cX12_count 0 = .ok (.iload_n 1, 1) := by decide +kernel
theorem dX12_count_1 : decode cX12_count 1 = .ok (.ifCond .ne 10, 3) := by decide +kernel
theorem dX12_count_4 : decode cX12_count 4 = .ok (.aload_n 0, 1) := by decide +kernel
theorem dX12_count_5 : decode cX12_count 5 = .ok (.getfield 180, 3) := by decide +kernel
theorem dX12_count_8 : decode cX12_count 8 = .ok (.goto 44, 3) := by decide +kernel
theorem dX12_count_11 : decode cX12_count 11 = .ok (.iload_n 1, 1) := by decide +kernel
theorem dX12_count_12 : decode cX12_count 12 = .ok (.iconst 1, 1) := by decide +kernel
theorem dX12_count_13 : decode cX12_count 13 = .ok (.if_icmp .ne 10, 3) := by decide +kernel
theorem dX12_count_16 : decode cX12_count 16 = .ok (.aload_n 0, 1) := by decide +kernel
theorem dX12_count_17 : decode cX12_count 17 = .ok (.getfield 330, 3) := by decide +kernel
theorem dX12_count_20 : decode cX12_count 20 = .ok (.goto 32, 3) := by decide +kernel
theorem dX12_count_23 : decode cX12_count 23 = .ok (.iload_n 1, 1) := by decide +kernel
theorem dX12_count_24 : decode cX12_count 24 = .ok (.iconst 2, 1) := by decide +kernel
theorem dX12_count_25 : decode cX12_count 25 = .ok (.if_icmp .ne 10, 3) := by decide +kernel
theorem dX12_count_28 : decode cX12_count 28 = .ok (.aload_n 0, 1) := by decide +kernel
theorem dX12_count_29 : decode cX12_count 29 = .ok (.getfield 437, 3) := by decide +kernel
theorem dX12_count_32 : decode cX12_count 32 = .ok (.goto 20, 3) := by decide +kernel
theorem dX12_count_35 : decode cX12_count 35 = .ok (.iload_n 1, 1) := by decide +kernel
theorem dX12_count_36 : decode cX12_count 36 = .ok (.iconst 3, 1) := by decide +kernel
theorem dX12_count_37 : decode cX12_count 37 = .ok (.if_icmp .ne 10, 3) := by decide +kernel
theorem dX12_count_40 : decode cX12_count 40 = .ok (.aload_n 0, 1) := by decide +kernel
theorem dX12_count_41 : decode cX12_count 41 = .ok (.getfield 440, 3) := by decide +kernel
theorem dX12_count_44 : decode cX12_count 44 = .ok (.goto 8, 3) := by decide +kernel
theorem dX12_count_47 : decode cX12_count 47 = .ok (.aload_n 0, 1) := by decide +kernel
theorem dX12_count_48 : decode cX12_count 48 = .ok (.iconst (-1), 1) := by decide +kernel
theorem dX12_count_49 : decode cX12_count 49 = .ok (.invokevirtual 189, 3) := by decide +kernel
theorem dX12_count_52 : decode cX12_count 52 = .ok (.ireturn, 1) := by decide +kernel
theorem dX12_isApp_0 : decode cX12_isApp 0 = .ok (.iload_n 1, 1) := by decide +kernel
theorem dX12_isApp_1 : decode cX12_isApp 1 = .ok (.ifCond .lt 15, 3) := by decide +kernel
theorem dX12_isApp_4 : decode cX12_isApp 4 = .ok (.iload_n 1, 1) := by decide +kernel
theorem dX12_isApp_5 : decode cX12_isApp 5 = .ok (.aload_n 0, 1) := by decide +kernel
theorem dX12_isApp_6 : decode cX12_isApp 6 = .ok (.getfield 437, 3) := by decide +kernel
theorem dX12_isApp_9 : decode cX12_isApp 9 = .ok (.if_icmp .ge 7, 3) := by decide +kernel
theorem dX12_isApp_12 : decode cX12_isApp 12 = .ok (.iconst 1, 1) := by decide +kernel
theorem dX12_isApp_13 : decode cX12_isApp 13 = .ok (.goto 4, 3) := by decide +kernel
theorem dX12_isApp_16 : decode cX12_isApp 16 = .ok (.iconst 0, 1) := by decide +kernel
theorem dX12_isApp_17 : decode cX12_isApp 17 = .ok (.ireturn, 1) := by decide +kernel
theorem dX12_make_0 : decode cX12_make 0 = .ok (.aload_n 0, 1) := by decide +kernel
theorem dX12_make_1 : decode cX12_make 1 = .ok (.iload_n 1, 1) := by decide +kernel
theorem dX12_make_2 : decode cX12_make 2 = .ok (.invokevirtual 428, 3) := by decide +kernel
theorem dX12_make_5 : decode cX12_make 5 = .ok (.ifCond .eq 14, 3) := by decide +kernel
theorem dX12_make_8 : decode cX12_make 8 = .ok (.iload_n 2, 1) := by decide +kernel
theorem dX12_make_9 : decode cX12_make 9 = .ok (.ifCond .lt 10, 3) := by decide +kernel
theorem dX12_make_12 : decode cX12_make 12 = .ok (.iload_n 2, 1) := by decide +kernel
theorem dX12_make_13 : decode cX12_make 13 = .ok (.sipush 10000, 3) := by decide +kernel
theorem dX12_make_16 : decode cX12_make 16 = .ok (.if_icmp .le 9, 3) := by decide +kernel
theorem dX12_make_19 : decode cX12_make 19 = .ok (.aload_n 0, 1) := by decide +kernel
theorem dX12_make_20 : decode cX12_make 20 = .ok (.iconst (-1), 1) := by decide +kernel
theorem dX12_make_21 : decode cX12_make 21 = .ok (.invokevirtual 189, 3) := by decide +kernel
theorem dX12_make_24 : decode cX12_make 24 = .ok (.ireturn, 1) := by decide +kernel
theorem dX12_make_25 : decode cX12_make 25 = .ok (.aload_n 0, 1) := by decide +kernel
theorem dX12_make_26 : decode cX12_make 26 = .ok (.getfield 29, 3) := by decide +kernel
theorem dX12_make_29 : decode cX12_make 29 = .ok (.iload_n 1, 1) := by decide +kernel
theorem dX12_make_30 : decode cX12_make 30 = .ok (.iaload, 1) := by decide +kernel
theorem dX12_make_31 : decode cX12_make 31 = .ok (.ifCond .lt 24, 3) := by decide +kernel
theorem dX12_make_34 : decode cX12_make 34 = .ok (.aload_n 0, 1) := by decide +kernel
theorem dX12_make_35 : decode cX12_make 35 = .ok (.getfield 69, 3) := by decide +kernel
theorem dX12_make_38 : decode cX12_make 38 = .ok (.aload_n 0, 1) := by decide +kernel
theorem dX12_make_39 : decode cX12_make 39 = .ok (.getfield 29, 3) := by decide +kernel
theorem dX12_make_42 : decode cX12_make 42 = .ok (.iload_n 1, 1) := by decide +kernel
theorem dX12_make_43 : decode cX12_make 43 = .ok (.iaload, 1) := by decide +kernel
theorem dX12_make_44 : decode cX12_make 44 = .ok (.baload, 1) := by decide +kernel
theorem dX12_make_45 : decode cX12_make 45 = .ok (.ifCond .eq 10, 3) := by decide +kernel
theorem dX12_make_48 : decode cX12_make 48 = .ok (.aload_n 0, 1) := by decide +kernel
theorem dX12_make_49 : decode cX12_make 49 = .ok (.bipush (-4), 2) := by decide +kernel
theorem dX12_make_51 : decode cX12_make 51 = .ok (.invokevirtual 189, 3) := by decide +kernel
theorem dX12_make_54 : decode cX12_make 54 = .ok (.ireturn, 1) := by decide +kernel
theorem dX12_make_55 : decode cX12_make 55 = .ok (.aload_n 0, 1) := by decide +kernel
theorem dX12_make_56 : decode cX12_make 56 = .ok (.getfield 437, 3) := by decide +kernel
theorem dX12_make_59 : decode cX12_make 59 = .ok (.bipush 20, 2) := by decide +kernel
theorem dX12_make_61 : decode cX12_make 61 = .ok (.if_icmp .ne 10, 3) := by decide +kernel
theorem dX12_make_64 : decode cX12_make 64 = .ok (.aload_n 0, 1) := by decide +kernel
theorem dX12_make_65 : decode cX12_make 65 = .ok (.bipush (-3), 2) := by decide +kernel
theorem dX12_make_67 : decode cX12_make 67 = .ok (.invokevirtual 189, 3) := by decide +kernel
theorem dX12_make_70 : decode cX12_make 70 = .ok (.ireturn, 1) := by decide +kernel
theorem dX12_make_71 : decode cX12_make 71 = .ok (.aload_n 0, 1) := by decide +kernel
theorem dX12_make_72 : decode cX12_make 72 = .ok (.getfield 109, 3) := by decide +kernel
theorem dX12_make_75 : decode cX12_make 75 = .ok (.aload_n 0, 1) := by decide +kernel
theorem dX12_make_76 : decode cX12_make 76 = .ok (.getfield 437, 3) := by decide +kernel
theorem dX12_make_79 : decode cX12_make 79 = .ok (.iload_n 1, 1) := by decide +kernel
theorem dX12_make_80 : decode cX12_make 80 = .ok (.iastore, 1) := by decide +kernel
theorem dX12_make_81 : decode cX12_make 81 = .ok (.aload_n 0, 1) := by decide +kernel
theorem dX12_make_82 : decode cX12_make 82 = .ok (.getfield 112, 3) := by decide +kernel
theorem dX12_make_85 : decode cX12_make 85 = .ok (.aload_n 0, 1) := by decide +kernel
theorem dX12_make_86 : decode cX12_make 86 = .ok (.getfield 437, 3) := by decide +kernel
theorem dX12_make_89 : decode cX12_make 89 = .ok (.iload_n 2, 1) := by decide +kernel
theorem dX12_make_90 : decode cX12_make 90 = .ok (.iastore, 1) := by decide +kernel
theorem dX12_make_91 : decode cX12_make 91 = .ok (.aload_n 0, 1) := by decide +kernel
theorem dX12_make_92 : decode cX12_make 92 = .ok (.getfield 115, 3) := by decide +kernel
theorem dX12_make_95 : decode cX12_make 95 = .ok (.aload_n 0, 1) := by decide +kernel
theorem dX12_make_96 : decode cX12_make 96 = .ok (.getfield 437, 3) := by decide +kernel
theorem dX12_make_99 : decode cX12_make 99 = .ok (.iconst 0, 1) := by decide +kernel
theorem dX12_make_100 : decode cX12_make 100 = .ok (.iastore, 1) := by decide +kernel
theorem dX12_make_101 : decode cX12_make 101 = .ok (.aload_n 0, 1) := by decide +kernel
theorem dX12_make_102 : decode cX12_make 102 = .ok (.getfield 118, 3) := by decide +kernel
theorem dX12_make_105 : decode cX12_make 105 = .ok (.aload_n 0, 1) := by decide +kernel
theorem dX12_make_106 : decode cX12_make 106 = .ok (.getfield 437, 3) := by decide +kernel
theorem dX12_make_109 : decode cX12_make 109 = .ok (.iconst 0, 1) := by decide +kernel
theorem dX12_make_110 : decode cX12_make 110 = .ok (.iastore, 1) := by decide +kernel
theorem dX12_make_111 : decode cX12_make 111 = .ok (.aload_n 0, 1) := by decide +kernel
theorem dX12_make_112 : decode cX12_make 112 = .ok (.dup, 1) := by decide +kernel
theorem dX12_make_113 : decode cX12_make 113 = .ok (.getfield 437, 3) := by decide +kernel
theorem dX12_make_116 : decode cX12_make 116 = .ok (.iconst 1, 1) := by decide +kernel
theorem dX12_make_117 : decode cX12_make 117 = .ok (.iadd, 1) := by decide +kernel
theorem dX12_make_118 : decode cX12_make 118 = .ok (.putfield 437, 3) := by decide +kernel
theorem dX12_make_121 : decode cX12_make 121 = .ok (.aload_n 0, 1) := by decide +kernel
theorem dX12_make_122 : decode cX12_make 122 = .ok (.getfield 437, 3) := by decide +kernel
theorem dX12_make_125 : decode cX12_make 125 = .ok (.iconst 1, 1) := by decide +kernel
theorem dX12_make_126 : decode cX12_make 126 = .ok (.isub, 1) := by decide +kernel
theorem dX12_make_127 : decode cX12_make 127 = .ok (.ireturn, 1) := by decide +kernel
theorem dX12_remember_0 : decode cX12_remember 0 = .ok (.aload_n 0, 1) := by decide +kernel
theorem dX12_remember_1 : decode cX12_remember 1 = .ok (.getfield 125, 3) := by decide +kernel
theorem dX12_remember_4 : decode cX12_remember 4 = .ok (.aload_n 0, 1) := by decide +kernel
theorem dX12_remember_5 : decode cX12_remember 5 = .ok (.getfield 440, 3) := by decide +kernel
theorem dX12_remember_8 : decode cX12_remember 8 = .ok (.iload_n 1, 1) := by decide +kernel
theorem dX12_remember_9 : decode cX12_remember 9 = .ok (.iastore, 1) := by decide +kernel
theorem dX12_remember_10 : decode cX12_remember 10 = .ok (.aload_n 0, 1) := by decide +kernel
theorem dX12_remember_11 : decode cX12_remember 11 = .ok (.getfield 128, 3) := by decide +kernel
theorem dX12_remember_14 : decode cX12_remember 14 = .ok (.aload_n 0, 1) := by decide +kernel
theorem dX12_remember_15 : decode cX12_remember 15 = .ok (.getfield 440, 3) := by decide +kernel
theorem dX12_remember_18 : decode cX12_remember 18 = .ok (.iload_n 2, 1) := by decide +kernel
theorem dX12_remember_19 : decode cX12_remember 19 = .ok (.iastore, 1) := by decide +kernel
theorem dX12_remember_20 : decode cX12_remember 20 = .ok (.aload_n 0, 1) := by decide +kernel
theorem dX12_remember_21 : decode cX12_remember 21 = .ok (.getfield 131, 3) := by decide +kernel
theorem dX12_remember_24 : decode cX12_remember 24 = .ok (.aload_n 0, 1) := by decide +kernel
theorem dX12_remember_25 : decode cX12_remember 25 = .ok (.getfield 440, 3) := by decide +kernel
theorem dX12_remember_28 : decode cX12_remember 28 = .ok (.iload_n 3, 1) := by decide +kernel
theorem dX12_remember_29 : decode cX12_remember 29 = .ok (.iastore, 1) := by decide +kernel
theorem dX12_remember_30 : decode cX12_remember 30 = .ok (.aload_n 0, 1) := by decide +kernel
theorem dX12_remember_31 : decode cX12_remember 31 = .ok (.getfield 134, 3) := by decide +kernel
theorem dX12_remember_34 : decode cX12_remember 34 = .ok (.aload_n 0, 1) := by decide +kernel
theorem dX12_remember_35 : decode cX12_remember 35 = .ok (.getfield 440, 3) := by decide +kernel
theorem dX12_remember_38 : decode cX12_remember 38 = .ok (.iload 4, 2) := by decide +kernel
theorem dX12_remember_40 : decode cX12_remember 40 = .ok (.iastore, 1) := by decide +kernel
theorem dX12_remember_41 : decode cX12_remember 41 = .ok (.aload_n 0, 1) := by decide +kernel
theorem dX12_remember_42 : decode cX12_remember 42 = .ok (.getfield 137, 3) := by decide +kernel
theorem dX12_remember_45 : decode cX12_remember 45 = .ok (.iconst 4, 1) := by decide +kernel
theorem dX12_remember_46 : decode cX12_remember 46 = .ok (.aload_n 0, 1) := by decide +kernel
theorem dX12_remember_47 : decode cX12_remember 47 = .ok (.getfield 440, 3) := by decide +kernel
theorem dX12_remember_50 : decode cX12_remember 50 = .ok (.imul, 1) := by decide +kernel
theorem dX12_remember_51 : decode cX12_remember 51 = .ok (.aload_n 0, 1) := by decide +kernel
theorem dX12_remember_52 : decode cX12_remember 52 = .ok (.getfield 115, 3) := by decide +kernel
theorem dX12_remember_55 : decode cX12_remember 55 = .ok (.iload_n 2, 1) := by decide +kernel
theorem dX12_remember_56 : decode cX12_remember 56 = .ok (.iaload, 1) := by decide +kernel
theorem dX12_remember_57 : decode cX12_remember 57 = .ok (.iastore, 1) := by decide +kernel
theorem dX12_remember_58 : decode cX12_remember 58 = .ok (.aload_n 0, 1) := by decide +kernel
theorem dX12_remember_59 : decode cX12_remember 59 = .ok (.getfield 137, 3) := by decide +kernel
theorem dX12_remember_62 : decode cX12_remember 62 = .ok (.iconst 4, 1) := by decide +kernel
theorem dX12_remember_63 : decode cX12_remember 63 = .ok (.aload_n 0, 1) := by decide +kernel
theorem dX12_remember_64 : decode cX12_remember 64 = .ok (.getfield 440, 3) := by decide +kernel
theorem dX12_remember_67 : decode cX12_remember 67 = .ok (.imul, 1) := by decide +kernel
theorem dX12_remember_68 : decode cX12_remember 68 = .ok (.iconst 1, 1) := by decide +kernel
theorem dX12_remember_69 : decode cX12_remember 69 = .ok (.iadd, 1) := by decide +kernel
theorem dX12_remember_70 : decode cX12_remember 70 = .ok (.aload_n 0, 1) := by decide +kernel
theorem dX12_remember_71 : decode cX12_remember 71 = .ok (.getfield 118, 3) := by decide +kernel
theorem dX12_remember_74 : decode cX12_remember 74 = .ok (.iload_n 2, 1) := by decide +kernel
theorem dX12_remember_75 : decode cX12_remember 75 = .ok (.iaload, 1) := by decide +kernel
theorem dX12_remember_76 : decode cX12_remember 76 = .ok (.iastore, 1) := by decide +kernel
theorem dX12_remember_77 : decode cX12_remember 77 = .ok (.aload_n 0, 1) := by decide +kernel
theorem dX12_remember_78 : decode cX12_remember 78 = .ok (.getfield 137, 3) := by decide +kernel
theorem dX12_remember_81 : decode cX12_remember 81 = .ok (.iconst 4, 1) := by decide +kernel
theorem dX12_remember_82 : decode cX12_remember 82 = .ok (.aload_n 0, 1) := by decide +kernel
theorem dX12_remember_83 : decode cX12_remember 83 = .ok (.getfield 440, 3) := by decide +kernel
theorem dX12_remember_86 : decode cX12_remember 86 = .ok (.imul, 1) := by decide +kernel
theorem dX12_remember_87 : decode cX12_remember 87 = .ok (.iconst 2, 1) := by decide +kernel
theorem dX12_remember_88 : decode cX12_remember 88 = .ok (.iadd, 1) := by decide +kernel
theorem dX12_remember_89 : decode cX12_remember 89 = .ok (.aload_n 0, 1) := by decide +kernel
theorem dX12_remember_90 : decode cX12_remember 90 = .ok (.getfield 115, 3) := by decide +kernel
theorem dX12_remember_93 : decode cX12_remember 93 = .ok (.iload 4, 2) := by decide +kernel
theorem dX12_remember_95 : decode cX12_remember 95 = .ok (.iaload, 1) := by decide +kernel
theorem dX12_remember_96 : decode cX12_remember 96 = .ok (.iastore, 1) := by decide +kernel
theorem dX12_remember_97 : decode cX12_remember 97 = .ok (.aload_n 0, 1) := by decide +kernel
theorem dX12_remember_98 : decode cX12_remember 98 = .ok (.getfield 137, 3) := by decide +kernel
theorem dX12_remember_101 : decode cX12_remember 101 = .ok (.iconst 4, 1) := by decide +kernel
theorem dX12_remember_102 : decode cX12_remember 102 = .ok (.aload_n 0, 1) := by decide +kernel
theorem dX12_remember_103 : decode cX12_remember 103 = .ok (.getfield 440, 3) := by decide +kernel
theorem dX12_remember_106 : decode cX12_remember 106 = .ok (.imul, 1) := by decide +kernel
theorem dX12_remember_107 : decode cX12_remember 107 = .ok (.iconst 3, 1) := by decide +kernel
theorem dX12_remember_108 : decode cX12_remember 108 = .ok (.iadd, 1) := by decide +kernel
theorem dX12_remember_109 : decode cX12_remember 109 = .ok (.aload_n 0, 1) := by decide +kernel
theorem dX12_remember_110 : decode cX12_remember 110 = .ok (.getfield 118, 3) := by decide +kernel
theorem dX12_remember_113 : decode cX12_remember 113 = .ok (.iload 4, 2) := by decide +kernel
theorem dX12_remember_115 : decode cX12_remember 115 = .ok (.iaload, 1) := by decide +kernel
theorem dX12_remember_116 : decode cX12_remember 116 = .ok (.iastore, 1) := by decide +kernel
theorem dX12_remember_117 : decode cX12_remember 117 = .ok (.iconst 0, 1) := by decide +kernel
theorem dX12_remember_118 : decode cX12_remember 118 = .ok (.istore 5, 2) := by decide +kernel
theorem dX12_remember_120 : decode cX12_remember 120 = .ok (.iload 5, 2) := by decide +kernel
theorem dX12_remember_122 : decode cX12_remember 122 = .ok (.iconst 5, 1) := by decide +kernel
theorem dX12_remember_123 : decode cX12_remember 123 = .ok (.if_icmp .ge 30, 3) := by decide +kernel
theorem dX12_remember_126 : decode cX12_remember 126 = .ok (.aload_n 0, 1) := by decide +kernel
theorem dX12_remember_127 : decode cX12_remember 127 = .ok (.getfield 140, 3) := by decide +kernel
theorem dX12_remember_130 : decode cX12_remember 130 = .ok (.iconst 5, 1) := by decide +kernel
theorem dX12_remember_131 : decode cX12_remember 131 = .ok (.aload_n 0, 1) := by decide +kernel
theorem dX12_remember_132 : decode cX12_remember 132 = .ok (.getfield 440, 3) := by decide +kernel
theorem dX12_remember_135 : decode cX12_remember 135 = .ok (.imul, 1) := by decide +kernel
theorem dX12_remember_136 : decode cX12_remember 136 = .ok (.iload 5, 2) := by decide +kernel
theorem dX12_remember_138 : decode cX12_remember 138 = .ok (.iadd, 1) := by decide +kernel
theorem dX12_remember_139 : decode cX12_remember 139 = .ok (.aload_n 0, 1) := by decide +kernel
theorem dX12_remember_140 : decode cX12_remember 140 = .ok (.getfield 121, 3) := by decide +kernel
theorem dX12_remember_143 : decode cX12_remember 143 = .ok (.iload 5, 2) := by decide +kernel
theorem dX12_remember_145 : decode cX12_remember 145 = .ok (.laload, 1) := by decide +kernel
theorem dX12_remember_146 : decode cX12_remember 146 = .ok (.lastore, 1) := by decide +kernel
theorem dX12_remember_147 : decode cX12_remember 147 = .ok (.iinc 5 1, 3) := by decide +kernel
theorem dX12_remember_150 : decode cX12_remember 150 = .ok (.goto (-30), 3) := by decide +kernel
theorem dX12_remember_153 : decode cX12_remember 153 = .ok (.return_, 1) := by decide +kernel
theorem dX12_restore_0 : decode cX12_restore 0 = .ok (.aload_n 0, 1) := by decide +kernel
theorem dX12_restore_1 : decode cX12_restore 1 = .ok (.getfield 115, 3) := by decide +kernel
theorem dX12_restore_4 : decode cX12_restore 4 = .ok (.aload_n 0, 1) := by decide +kernel
theorem dX12_restore_5 : decode cX12_restore 5 = .ok (.getfield 134, 3) := by decide +kernel
theorem dX12_restore_8 : decode cX12_restore 8 = .ok (.aload_n 0, 1) := by decide +kernel
theorem dX12_restore_9 : decode cX12_restore 9 = .ok (.getfield 440, 3) := by decide +kernel
theorem dX12_restore_12 : decode cX12_restore 12 = .ok (.iaload, 1) := by decide +kernel
theorem dX12_restore_13 : decode cX12_restore 13 = .ok (.aload_n 0, 1) := by decide +kernel
theorem dX12_restore_14 : decode cX12_restore 14 = .ok (.getfield 137, 3) := by decide +kernel
theorem dX12_restore_17 : decode cX12_restore 17 = .ok (.iconst 4, 1) := by decide +kernel
theorem dX12_restore_18 : decode cX12_restore 18 = .ok (.aload_n 0, 1) := by decide +kernel
theorem dX12_restore_19 : decode cX12_restore 19 = .ok (.getfield 440, 3) := by decide +kernel
theorem dX12_restore_22 : decode cX12_restore 22 = .ok (.imul, 1) := by decide +kernel
theorem dX12_restore_23 : decode cX12_restore 23 = .ok (.iconst 2, 1) := by decide +kernel
theorem dX12_restore_24 : decode cX12_restore 24 = .ok (.iadd, 1) := by decide +kernel
theorem dX12_restore_25 : decode cX12_restore 25 = .ok (.iaload, 1) := by decide +kernel
theorem dX12_restore_26 : decode cX12_restore 26 = .ok (.iastore, 1) := by decide +kernel
theorem dX12_restore_27 : decode cX12_restore 27 = .ok (.aload_n 0, 1) := by decide +kernel
theorem dX12_restore_28 : decode cX12_restore 28 = .ok (.getfield 118, 3) := by decide +kernel
theorem dX12_restore_31 : decode cX12_restore 31 = .ok (.aload_n 0, 1) := by decide +kernel
theorem dX12_restore_32 : decode cX12_restore 32 = .ok (.getfield 134, 3) := by decide +kernel
theorem dX12_restore_35 : decode cX12_restore 35 = .ok (.aload_n 0, 1) := by decide +kernel
theorem dX12_restore_36 : decode cX12_restore 36 = .ok (.getfield 440, 3) := by decide +kernel
theorem dX12_restore_39 : decode cX12_restore 39 = .ok (.iaload, 1) := by decide +kernel
theorem dX12_restore_40 : decode cX12_restore 40 = .ok (.aload_n 0, 1) := by decide +kernel
theorem dX12_restore_41 : decode cX12_restore 41 = .ok (.getfield 137, 3) := by decide +kernel
theorem dX12_restore_44 : decode cX12_restore 44 = .ok (.iconst 4, 1) := by decide +kernel
theorem dX12_restore_45 : decode cX12_restore 45 = .ok (.aload_n 0, 1) := by decide +kernel
theorem dX12_restore_46 : decode cX12_restore 46 = .ok (.getfield 440, 3) := by decide +kernel
theorem dX12_restore_49 : decode cX12_restore 49 = .ok (.imul, 1) := by decide +kernel
theorem dX12_restore_50 : decode cX12_restore 50 = .ok (.iconst 3, 1) := by decide +kernel
theorem dX12_restore_51 : decode cX12_restore 51 = .ok (.iadd, 1) := by decide +kernel
theorem dX12_restore_52 : decode cX12_restore 52 = .ok (.iaload, 1) := by decide +kernel
theorem dX12_restore_53 : decode cX12_restore 53 = .ok (.iastore, 1) := by decide +kernel
theorem dX12_restore_54 : decode cX12_restore 54 = .ok (.aload_n 0, 1) := by decide +kernel
theorem dX12_restore_55 : decode cX12_restore 55 = .ok (.getfield 115, 3) := by decide +kernel
theorem dX12_restore_58 : decode cX12_restore 58 = .ok (.aload_n 0, 1) := by decide +kernel
theorem dX12_restore_59 : decode cX12_restore 59 = .ok (.getfield 128, 3) := by decide +kernel
theorem dX12_restore_62 : decode cX12_restore 62 = .ok (.aload_n 0, 1) := by decide +kernel
theorem dX12_restore_63 : decode cX12_restore 63 = .ok (.getfield 440, 3) := by decide +kernel
theorem dX12_restore_66 : decode cX12_restore 66 = .ok (.iaload, 1) := by decide +kernel
theorem dX12_restore_67 : decode cX12_restore 67 = .ok (.aload_n 0, 1) := by decide +kernel
theorem dX12_restore_68 : decode cX12_restore 68 = .ok (.getfield 137, 3) := by decide +kernel
theorem dX12_restore_71 : decode cX12_restore 71 = .ok (.iconst 4, 1) := by decide +kernel
theorem dX12_restore_72 : decode cX12_restore 72 = .ok (.aload_n 0, 1) := by decide +kernel
theorem dX12_restore_73 : decode cX12_restore 73 = .ok (.getfield 440, 3) := by decide +kernel
theorem dX12_restore_76 : decode cX12_restore 76 = .ok (.imul, 1) := by decide +kernel
theorem dX12_restore_77 : decode cX12_restore 77 = .ok (.iaload, 1) := by decide +kernel
theorem dX12_restore_78 : decode cX12_restore 78 = .ok (.iastore, 1) := by decide +kernel
theorem dX12_restore_79 : decode cX12_restore 79 = .ok (.aload_n 0, 1) := by decide +kernel
theorem dX12_restore_80 : decode cX12_restore 80 = .ok (.getfield 118, 3) := by decide +kernel
theorem dX12_restore_83 : decode cX12_restore 83 = .ok (.aload_n 0, 1) := by decide +kernel
theorem dX12_restore_84 : decode cX12_restore 84 = .ok (.getfield 128, 3) := by decide +kernel
theorem dX12_restore_87 : decode cX12_restore 87 = .ok (.aload_n 0, 1) := by decide +kernel
theorem dX12_restore_88 : decode cX12_restore 88 = .ok (.getfield 440, 3) := by decide +kernel
theorem dX12_restore_91 : decode cX12_restore 91 = .ok (.iaload, 1) := by decide +kernel
theorem dX12_restore_92 : decode cX12_restore 92 = .ok (.aload_n 0, 1) := by decide +kernel
theorem dX12_restore_93 : decode cX12_restore 93 = .ok (.getfield 137, 3) := by decide +kernel
theorem dX12_restore_96 : decode cX12_restore 96 = .ok (.iconst 4, 1) := by decide +kernel
theorem dX12_restore_97 : decode cX12_restore 97 = .ok (.aload_n 0, 1) := by decide +kernel
theorem dX12_restore_98 : decode cX12_restore 98 = .ok (.getfield 440, 3) := by decide +kernel
theorem dX12_restore_101 : decode cX12_restore 101 = .ok (.imul, 1) := by decide +kernel
theorem dX12_restore_102 : decode cX12_restore 102 = .ok (.iconst 1, 1) := by decide +kernel
theorem dX12_restore_103 : decode cX12_restore 103 = .ok (.iadd, 1) := by decide +kernel
theorem dX12_restore_104 : decode cX12_restore 104 = .ok (.iaload, 1) := by decide +kernel
theorem dX12_restore_105 : decode cX12_restore 105 = .ok (.iastore, 1) := by decide +kernel
theorem dX12_restore_106 : decode cX12_restore 106 = .ok (.iconst 0, 1) := by decide +kernel
theorem dX12_restore_107 : decode cX12_restore 107 = .ok (.istore_n 1, 1) := by decide +kernel
theorem dX12_restore_108 : decode cX12_restore 108 = .ok (.iload_n 1, 1) := by decide +kernel
theorem dX12_restore_109 : decode cX12_restore 109 = .ok (.iconst 5, 1) := by decide +kernel
theorem dX12_restore_110 : decode cX12_restore 110 = .ok (.if_icmp .ge 28, 3) := by decide +kernel
theorem dX12_restore_113 : decode cX12_restore 113 = .ok (.aload_n 0, 1) := by decide +kernel
theorem dX12_restore_114 : decode cX12_restore 114 = .ok (.getfield 121, 3) := by decide +kernel
theorem dX12_restore_117 : decode cX12_restore 117 = .ok (.iload_n 1, 1) := by decide +kernel
theorem dX12_restore_118 : decode cX12_restore 118 = .ok (.aload_n 0, 1) := by decide +kernel
theorem dX12_restore_119 : decode cX12_restore 119 = .ok (.getfield 140, 3) := by decide +kernel
theorem dX12_restore_122 : decode cX12_restore 122 = .ok (.iconst 5, 1) := by decide +kernel
theorem dX12_restore_123 : decode cX12_restore 123 = .ok (.aload_n 0, 1) := by decide +kernel
theorem dX12_restore_124 : decode cX12_restore 124 = .ok (.getfield 440, 3) := by decide +kernel
theorem dX12_restore_127 : decode cX12_restore 127 = .ok (.imul, 1) := by decide +kernel
theorem dX12_restore_128 : decode cX12_restore 128 = .ok (.iload_n 1, 1) := by decide +kernel
theorem dX12_restore_129 : decode cX12_restore 129 = .ok (.iadd, 1) := by decide +kernel
theorem dX12_restore_130 : decode cX12_restore 130 = .ok (.laload, 1) := by decide +kernel
theorem dX12_restore_131 : decode cX12_restore 131 = .ok (.lastore, 1) := by decide +kernel
theorem dX12_restore_132 : decode cX12_restore 132 = .ok (.iinc 1 1, 3) := by decide +kernel
theorem dX12_restore_135 : decode cX12_restore 135 = .ok (.goto (-27), 3) := by decide +kernel
theorem dX12_restore_138 : decode cX12_restore 138 = .ok (.return_, 1) := by decide +kernel
theorem dX12_isRoom_0 : decode cX12_isRoom 0 = .ok (.aload_n 0, 1) := by decide +kernel
theorem dX12_isRoom_1 : decode cX12_isRoom 1 = .ok (.getfield 115, 3) := by decide +kernel
theorem dX12_isRoom_4 : decode cX12_isRoom 4 = .ok (.iload_n 1, 1) := by decide +kernel
theorem dX12_isRoom_5 : decode cX12_isRoom 5 = .ok (.iaload, 1) := by decide +kernel
theorem dX12_isRoom_6 : decode cX12_isRoom 6 = .ok (.i2l, 1) := by decide +kernel
theorem dX12_isRoom_7 : decode cX12_isRoom 7 = .ok (.lload_n 2, 1) := by decide +kernel
theorem dX12_isRoom_8 : decode cX12_isRoom 8 = .ok (.ladd, 1) := by decide +kernel
theorem dX12_isRoom_9 : decode cX12_isRoom 9 = .ok (.aload_n 0, 1) := by decide +kernel
theorem dX12_isRoom_10 : decode cX12_isRoom 10 = .ok (.getfield 112, 3) := by decide +kernel
theorem dX12_isRoom_13 : decode cX12_isRoom 13 = .ok (.iload_n 1, 1) := by decide +kernel
theorem dX12_isRoom_14 : decode cX12_isRoom 14 = .ok (.iaload, 1) := by decide +kernel
theorem dX12_isRoom_15 : decode cX12_isRoom 15 = .ok (.i2l, 1) := by decide +kernel
theorem dX12_isRoom_16 : decode cX12_isRoom 16 = .ok (.lcmp, 1) := by decide +kernel
theorem dX12_isRoom_17 : decode cX12_isRoom 17 = .ok (.ifCond .gt 24, 3) := by decide +kernel
theorem dX12_isRoom_20 : decode cX12_isRoom 20 = .ok (.aload_n 0, 1) := by decide +kernel
theorem dX12_isRoom_21 : decode cX12_isRoom 21 = .ok (.getfield 118, 3) := by decide +kernel
theorem dX12_isRoom_24 : decode cX12_isRoom 24 = .ok (.iload_n 1, 1) := by decide +kernel
theorem dX12_isRoom_25 : decode cX12_isRoom 25 = .ok (.iaload, 1) := by decide +kernel
theorem dX12_isRoom_26 : decode cX12_isRoom 26 = .ok (.i2l, 1) := by decide +kernel
theorem dX12_isRoom_27 : decode cX12_isRoom 27 = .ok (.lload 4, 2) := by decide +kernel
theorem dX12_isRoom_29 : decode cX12_isRoom 29 = .ok (.ladd, 1) := by decide +kernel
theorem dX12_isRoom_30 : decode cX12_isRoom 30 = .ok (.ldc2_w 443, 3) := by decide +kernel
theorem dX12_isRoom_33 : decode cX12_isRoom 33 = .ok (.lcmp, 1) := by decide +kernel
theorem dX12_isRoom_34 : decode cX12_isRoom 34 = .ok (.ifCond .gt 7, 3) := by decide +kernel
theorem dX12_isRoom_37 : decode cX12_isRoom 37 = .ok (.iconst 1, 1) := by decide +kernel
theorem dX12_isRoom_38 : decode cX12_isRoom 38 = .ok (.goto 4, 3) := by decide +kernel
theorem dX12_isRoom_41 : decode cX12_isRoom 41 = .ok (.iconst 0, 1) := by decide +kernel
theorem dX12_isRoom_42 : decode cX12_isRoom 42 = .ok (.ireturn, 1) := by decide +kernel
theorem dX12_charge_0 : decode cX12_charge 0 = .ok (.aload_n 0, 1) := by decide +kernel
theorem dX12_charge_1 : decode cX12_charge 1 = .ok (.iload_n 1, 1) := by decide +kernel
theorem dX12_charge_2 : decode cX12_charge 2 = .ok (.invokevirtual 445, 3) := by decide +kernel
theorem dX12_charge_5 : decode cX12_charge 5 = .ok (.ifCond .eq 25, 3) := by decide +kernel
theorem dX12_charge_8 : decode cX12_charge 8 = .ok (.iload_n 2, 1) := by decide +kernel
theorem dX12_charge_9 : decode cX12_charge 9 = .ok (.ifCond .lt 21, 3) := by decide +kernel
theorem dX12_charge_12 : decode cX12_charge 12 = .ok (.iload_n 3, 1) := by decide +kernel
theorem dX12_charge_13 : decode cX12_charge 13 = .ok (.ifCond .lt 17, 3) := by decide +kernel
theorem dX12_charge_16 : decode cX12_charge 16 = .ok (.iload_n 2, 1) := by decide +kernel
theorem dX12_charge_17 : decode cX12_charge 17 = .ok (.ldc_w 448, 3) := by decide +kernel
theorem dX12_charge_20 : decode cX12_charge 20 = .ok (.if_icmp .gt 10, 3) := by decide +kernel
theorem dX12_charge_23 : decode cX12_charge 23 = .ok (.iload_n 3, 1) := by decide +kernel
theorem dX12_charge_24 : decode cX12_charge 24 = .ok (.ldc_w 448, 3) := by decide +kernel
theorem dX12_charge_27 : decode cX12_charge 27 = .ok (.if_icmp .le 9, 3) := by decide +kernel
theorem dX12_charge_30 : decode cX12_charge 30 = .ok (.aload_n 0, 1) := by decide +kernel
theorem dX12_charge_31 : decode cX12_charge 31 = .ok (.iconst (-1), 1) := by decide +kernel
theorem dX12_charge_32 : decode cX12_charge 32 = .ok (.invokevirtual 189, 3) := by decide +kernel
theorem dX12_charge_35 : decode cX12_charge 35 = .ok (.ireturn, 1) := by decide +kernel
theorem dX12_charge_36 : decode cX12_charge 36 = .ok (.aload_n 0, 1) := by decide +kernel
theorem dX12_charge_37 : decode cX12_charge 37 = .ok (.iload_n 1, 1) := by decide +kernel
theorem dX12_charge_38 : decode cX12_charge 38 = .ok (.iload_n 2, 1) := by decide +kernel
theorem dX12_charge_39 : decode cX12_charge 39 = .ok (.i2l, 1) := by decide +kernel
theorem dX12_charge_40 : decode cX12_charge 40 = .ok (.iload_n 3, 1) := by decide +kernel
theorem dX12_charge_41 : decode cX12_charge 41 = .ok (.i2l, 1) := by decide +kernel
theorem dX12_charge_42 : decode cX12_charge 42 = .ok (.invokevirtual 449, 3) := by decide +kernel
theorem dX12_charge_45 : decode cX12_charge 45 = .ok (.ifCond .ne 10, 3) := by decide +kernel
theorem dX12_charge_48 : decode cX12_charge 48 = .ok (.aload_n 0, 1) := by decide +kernel
theorem dX12_charge_49 : decode cX12_charge 49 = .ok (.bipush (-3), 2) := by decide +kernel
theorem dX12_charge_51 : decode cX12_charge 51 = .ok (.invokevirtual 189, 3) := by decide +kernel
theorem dX12_charge_54 : decode cX12_charge 54 = .ok (.ireturn, 1) := by decide +kernel
theorem dX12_charge_55 : decode cX12_charge 55 = .ok (.aload_n 0, 1) := by decide +kernel
theorem dX12_charge_56 : decode cX12_charge 56 = .ok (.iconst 1, 1) := by decide +kernel
theorem dX12_charge_57 : decode cX12_charge 57 = .ok (.iload_n 1, 1) := by decide +kernel
theorem dX12_charge_58 : decode cX12_charge 58 = .ok (.iload_n 2, 1) := by decide +kernel
theorem dX12_charge_59 : decode cX12_charge 59 = .ok (.iload_n 1, 1) := by decide +kernel
theorem dX12_charge_60 : decode cX12_charge 60 = .ok (.invokevirtual 453, 3) := by decide +kernel
theorem dX12_charge_63 : decode cX12_charge 63 = .ok (.aload_n 0, 1) := by decide +kernel
theorem dX12_charge_64 : decode cX12_charge 64 = .ok (.getfield 115, 3) := by decide +kernel
theorem dX12_charge_67 : decode cX12_charge 67 = .ok (.iload_n 1, 1) := by decide +kernel
theorem dX12_charge_68 : decode cX12_charge 68 = .ok (.dup2, 1) := by decide +kernel
theorem dX12_charge_69 : decode cX12_charge 69 = .ok (.iaload, 1) := by decide +kernel
theorem dX12_charge_70 : decode cX12_charge 70 = .ok (.iload_n 2, 1) := by decide +kernel
theorem dX12_charge_71 : decode cX12_charge 71 = .ok (.iadd, 1) := by decide +kernel
theorem dX12_charge_72 : decode cX12_charge 72 = .ok (.iastore, 1) := by decide +kernel
theorem dX12_charge_73 : decode cX12_charge 73 = .ok (.aload_n 0, 1) := by decide +kernel
theorem dX12_charge_74 : decode cX12_charge 74 = .ok (.getfield 118, 3) := by decide +kernel
theorem dX12_charge_77 : decode cX12_charge 77 = .ok (.iload_n 1, 1) := by decide +kernel
theorem dX12_charge_78 : decode cX12_charge 78 = .ok (.dup2, 1) := by decide +kernel
theorem dX12_charge_79 : decode cX12_charge 79 = .ok (.iaload, 1) := by decide +kernel
theorem dX12_charge_80 : decode cX12_charge 80 = .ok (.iload_n 3, 1) := by decide +kernel
theorem dX12_charge_81 : decode cX12_charge 81 = .ok (.iadd, 1) := by decide +kernel
theorem dX12_charge_82 : decode cX12_charge 82 = .ok (.iastore, 1) := by decide +kernel
theorem dX12_charge_83 : decode cX12_charge 83 = .ok (.aload_n 0, 1) := by decide +kernel
theorem dX12_charge_84 : decode cX12_charge 84 = .ok (.getfield 121, 3) := by decide +kernel
theorem dX12_charge_87 : decode cX12_charge 87 = .ok (.iconst 0, 1) := by decide +kernel
theorem dX12_charge_88 : decode cX12_charge 88 = .ok (.dup2, 1) := by decide +kernel
theorem dX12_charge_89 : decode cX12_charge 89 = .ok (.laload, 1) := by decide +kernel
theorem dX12_charge_90 : decode cX12_charge 90 = .ok (.iload_n 2, 1) := by decide +kernel
theorem dX12_charge_91 : decode cX12_charge 91 = .ok (.i2l, 1) := by decide +kernel
theorem dX12_charge_92 : decode cX12_charge 92 = .ok (.ladd, 1) := by decide +kernel
theorem dX12_charge_93 : decode cX12_charge 93 = .ok (.lastore, 1) := by decide +kernel
theorem dX12_charge_94 : decode cX12_charge 94 = .ok (.aload_n 0, 1) := by decide +kernel
theorem dX12_charge_95 : decode cX12_charge 95 = .ok (.getfield 121, 3) := by decide +kernel
theorem dX12_charge_98 : decode cX12_charge 98 = .ok (.iconst 3, 1) := by decide +kernel
theorem dX12_charge_99 : decode cX12_charge 99 = .ok (.dup2, 1) := by decide +kernel
theorem dX12_charge_100 : decode cX12_charge 100 = .ok (.laload, 1) := by decide +kernel
theorem dX12_charge_101 : decode cX12_charge 101 = .ok (.iload_n 3, 1) := by decide +kernel
theorem dX12_charge_102 : decode cX12_charge 102 = .ok (.i2l, 1) := by decide +kernel
theorem dX12_charge_103 : decode cX12_charge 103 = .ok (.ladd, 1) := by decide +kernel
theorem dX12_charge_104 : decode cX12_charge 104 = .ok (.lastore, 1) := by decide +kernel
theorem dX12_charge_105 : decode cX12_charge 105 = .ok (.aload_n 0, 1) := by decide +kernel
theorem dX12_charge_106 : decode cX12_charge 106 = .ok (.dup, 1) := by decide +kernel
theorem dX12_charge_107 : decode cX12_charge 107 = .ok (.getfield 440, 3) := by decide +kernel
theorem dX12_charge_110 : decode cX12_charge 110 = .ok (.iconst 1, 1) := by decide +kernel
theorem dX12_charge_111 : decode cX12_charge 111 = .ok (.iadd, 1) := by decide +kernel
theorem dX12_charge_112 : decode cX12_charge 112 = .ok (.putfield 440, 3) := by decide +kernel
theorem dX12_charge_115 : decode cX12_charge 115 = .ok (.aload_n 0, 1) := by decide +kernel
theorem dX12_charge_116 : decode cX12_charge 116 = .ok (.getfield 115, 3) := by decide +kernel
theorem dX12_charge_119 : decode cX12_charge 119 = .ok (.iload_n 1, 1) := by decide +kernel
theorem dX12_charge_120 : decode cX12_charge 120 = .ok (.iaload, 1) := by decide +kernel
theorem dX12_charge_121 : decode cX12_charge 121 = .ok (.ireturn, 1) := by decide +kernel
theorem dX12_pour_0 : decode cX12_pour 0 = .ok (.aload_n 0, 1) := by decide +kernel
theorem dX12_pour_1 : decode cX12_pour 1 = .ok (.iload_n 1, 1) := by decide +kernel
theorem dX12_pour_2 : decode cX12_pour 2 = .ok (.invokevirtual 445, 3) := by decide +kernel
theorem dX12_pour_5 : decode cX12_pour 5 = .ok (.ifCond .eq 31, 3) := by decide +kernel
theorem dX12_pour_8 : decode cX12_pour 8 = .ok (.aload_n 0, 1) := by decide +kernel
theorem dX12_pour_9 : decode cX12_pour 9 = .ok (.iload_n 2, 1) := by decide +kernel
theorem dX12_pour_10 : decode cX12_pour 10 = .ok (.invokevirtual 445, 3) := by decide +kernel
theorem dX12_pour_13 : decode cX12_pour 13 = .ok (.ifCond .eq 23, 3) := by decide +kernel
theorem dX12_pour_16 : decode cX12_pour 16 = .ok (.iload_n 1, 1) := by decide +kernel
theorem dX12_pour_17 : decode cX12_pour 17 = .ok (.iload_n 2, 1) := by decide +kernel
theorem dX12_pour_18 : decode cX12_pour 18 = .ok (.if_icmp .eq 18, 3) := by decide +kernel
theorem dX12_pour_21 : decode cX12_pour 21 = .ok (.iload_n 3, 1) := by decide +kernel
theorem dX12_pour_22 : decode cX12_pour 22 = .ok (.iconst 1, 1) := by decide +kernel
theorem dX12_pour_23 : decode cX12_pour 23 = .ok (.if_icmp .lt 13, 3) := by decide +kernel
theorem dX12_pour_26 : decode cX12_pour 26 = .ok (.iload_n 3, 1) := by decide +kernel
theorem dX12_pour_27 : decode cX12_pour 27 = .ok (.aload_n 0, 1) := by decide +kernel
theorem dX12_pour_28 : decode cX12_pour 28 = .ok (.getfield 115, 3) := by decide +kernel
theorem dX12_pour_31 : decode cX12_pour 31 = .ok (.iload_n 1, 1) := by decide +kernel
theorem dX12_pour_32 : decode cX12_pour 32 = .ok (.iaload, 1) := by decide +kernel
theorem dX12_pour_33 : decode cX12_pour 33 = .ok (.if_icmp .le 9, 3) := by decide +kernel
theorem dX12_pour_36 : decode cX12_pour 36 = .ok (.aload_n 0, 1) := by decide +kernel
theorem dX12_pour_37 : decode cX12_pour 37 = .ok (.iconst (-1), 1) := by decide +kernel
theorem dX12_pour_38 : decode cX12_pour 38 = .ok (.invokevirtual 189, 3) := by decide +kernel
theorem dX12_pour_41 : decode cX12_pour 41 = .ok (.ireturn, 1) := by decide +kernel
theorem dX12_pour_42 : decode cX12_pour 42 = .ok (.aload_n 0, 1) := by decide +kernel
theorem dX12_pour_43 : decode cX12_pour 43 = .ok (.getfield 118, 3) := by decide +kernel
theorem dX12_pour_46 : decode cX12_pour 46 = .ok (.iload_n 1, 1) := by decide +kernel
theorem dX12_pour_47 : decode cX12_pour 47 = .ok (.iaload, 1) := by decide +kernel
theorem dX12_pour_48 : decode cX12_pour 48 = .ok (.i2l, 1) := by decide +kernel
theorem dX12_pour_49 : decode cX12_pour 49 = .ok (.iload_n 3, 1) := by decide +kernel
theorem dX12_pour_50 : decode cX12_pour 50 = .ok (.i2l, 1) := by decide +kernel
theorem dX12_pour_51 : decode cX12_pour 51 = .ok (.lmul, 1) := by decide +kernel
theorem dX12_pour_52 : decode cX12_pour 52 = .ok (.aload_n 0, 1) := by decide +kernel
theorem dX12_pour_53 : decode cX12_pour 53 = .ok (.getfield 115, 3) := by decide +kernel
theorem dX12_pour_56 : decode cX12_pour 56 = .ok (.iload_n 1, 1) := by decide +kernel
theorem dX12_pour_57 : decode cX12_pour 57 = .ok (.iaload, 1) := by decide +kernel
theorem dX12_pour_58 : decode cX12_pour 58 = .ok (.i2l, 1) := by decide +kernel
theorem dX12_pour_59 : decode cX12_pour 59 = .ok (.ldiv, 1) := by decide +kernel
theorem dX12_pour_60 : decode cX12_pour 60 = .ok (.l2i, 1) := by decide +kernel
theorem dX12_pour_61 : decode cX12_pour 61 = .ok (.istore 4, 2) := by decide +kernel
theorem dX12_pour_63 : decode cX12_pour 63 = .ok (.aload_n 0, 1) := by decide +kernel
theorem dX12_pour_64 : decode cX12_pour 64 = .ok (.iload_n 2, 1) := by decide +kernel
theorem dX12_pour_65 : decode cX12_pour 65 = .ok (.iload_n 3, 1) := by decide +kernel
theorem dX12_pour_66 : decode cX12_pour 66 = .ok (.i2l, 1) := by decide +kernel
theorem dX12_pour_67 : decode cX12_pour 67 = .ok (.iload 4, 2) := by decide +kernel
theorem dX12_pour_69 : decode cX12_pour 69 = .ok (.i2l, 1) := by decide +kernel
theorem dX12_pour_70 : decode cX12_pour 70 = .ok (.invokevirtual 449, 3) := by decide +kernel
theorem dX12_pour_73 : decode cX12_pour 73 = .ok (.ifCond .ne 10, 3) := by decide +kernel
theorem dX12_pour_76 : decode cX12_pour 76 = .ok (.aload_n 0, 1) := by decide +kernel
theorem dX12_pour_77 : decode cX12_pour 77 = .ok (.bipush (-3), 2) := by decide +kernel
theorem dX12_pour_79 : decode cX12_pour 79 = .ok (.invokevirtual 189, 3) := by decide +kernel
theorem dX12_pour_82 : decode cX12_pour 82 = .ok (.ireturn, 1) := by decide +kernel
theorem dX12_pour_83 : decode cX12_pour 83 = .ok (.aload_n 0, 1) := by decide +kernel
theorem dX12_pour_84 : decode cX12_pour 84 = .ok (.iconst 2, 1) := by decide +kernel
theorem dX12_pour_85 : decode cX12_pour 85 = .ok (.iload_n 1, 1) := by decide +kernel
theorem dX12_pour_86 : decode cX12_pour 86 = .ok (.iload_n 3, 1) := by decide +kernel
theorem dX12_pour_87 : decode cX12_pour 87 = .ok (.iload_n 2, 1) := by decide +kernel
theorem dX12_pour_88 : decode cX12_pour 88 = .ok (.invokevirtual 453, 3) := by decide +kernel
theorem dX12_pour_91 : decode cX12_pour 91 = .ok (.aload_n 0, 1) := by decide +kernel
theorem dX12_pour_92 : decode cX12_pour 92 = .ok (.getfield 115, 3) := by decide +kernel
theorem dX12_pour_95 : decode cX12_pour 95 = .ok (.iload_n 1, 1) := by decide +kernel
theorem dX12_pour_96 : decode cX12_pour 96 = .ok (.dup2, 1) := by decide +kernel
theorem dX12_pour_97 : decode cX12_pour 97 = .ok (.iaload, 1) := by decide +kernel
theorem dX12_pour_98 : decode cX12_pour 98 = .ok (.iload_n 3, 1) := by decide +kernel
theorem dX12_pour_99 : decode cX12_pour 99 = .ok (.isub, 1) := by decide +kernel
theorem dX12_pour_100 : decode cX12_pour 100 = .ok (.iastore, 1) := by decide +kernel
theorem dX12_pour_101 : decode cX12_pour 101 = .ok (.aload_n 0, 1) := by decide +kernel
theorem dX12_pour_102 : decode cX12_pour 102 = .ok (.getfield 118, 3) := by decide +kernel
theorem dX12_pour_105 : decode cX12_pour 105 = .ok (.iload_n 1, 1) := by decide +kernel
theorem dX12_pour_106 : decode cX12_pour 106 = .ok (.dup2, 1) := by decide +kernel
theorem dX12_pour_107 : decode cX12_pour 107 = .ok (.iaload, 1) := by decide +kernel
theorem dX12_pour_108 : decode cX12_pour 108 = .ok (.iload 4, 2) := by decide +kernel
theorem dX12_pour_110 : decode cX12_pour 110 = .ok (.isub, 1) := by decide +kernel
theorem dX12_pour_111 : decode cX12_pour 111 = .ok (.iastore, 1) := by decide +kernel
theorem dX12_pour_112 : decode cX12_pour 112 = .ok (.aload_n 0, 1) := by decide +kernel
theorem dX12_pour_113 : decode cX12_pour 113 = .ok (.getfield 115, 3) := by decide +kernel
theorem dX12_pour_116 : decode cX12_pour 116 = .ok (.iload_n 2, 1) := by decide +kernel
theorem dX12_pour_117 : decode cX12_pour 117 = .ok (.dup2, 1) := by decide +kernel
theorem dX12_pour_118 : decode cX12_pour 118 = .ok (.iaload, 1) := by decide +kernel
theorem dX12_pour_119 : decode cX12_pour 119 = .ok (.iload_n 3, 1) := by decide +kernel
theorem dX12_pour_120 : decode cX12_pour 120 = .ok (.iadd, 1) := by decide +kernel
theorem dX12_pour_121 : decode cX12_pour 121 = .ok (.iastore, 1) := by decide +kernel
theorem dX12_pour_122 : decode cX12_pour 122 = .ok (.aload_n 0, 1) := by decide +kernel
theorem dX12_pour_123 : decode cX12_pour 123 = .ok (.getfield 118, 3) := by decide +kernel
theorem dX12_pour_126 : decode cX12_pour 126 = .ok (.iload_n 2, 1) := by decide +kernel
theorem dX12_pour_127 : decode cX12_pour 127 = .ok (.dup2, 1) := by decide +kernel
theorem dX12_pour_128 : decode cX12_pour 128 = .ok (.iaload, 1) := by decide +kernel
